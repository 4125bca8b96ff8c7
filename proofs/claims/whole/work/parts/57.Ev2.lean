/-! ===== sums, brackets, expressions: class and model ===== -/
theorem i32_0sub (x : Int32) : nI 0 - x = -x := by
  have : nI 0 = 0 := by decide +kernel
  rw [this, Int32.zero_sub]
theorem i32_0add (x : Int32) : nI 0 + x = x := by
  have : nI 0 = 0 := by decide +kernel
  rw [this, Int32.zero_add]
section E2
variable {T : Tk} {m : Nat} {N : Nm} {D : Co} {K : Mc} {X : MS}
theorem ev_term {d : Nat} {f : CS → CR} (t : TkOk T m) (hR : RT T m X) (hd : d ≤ 8) (gf : GX m f (fun _ => True)) (hf : EF T m N D K X d f (fun _ => True)) : ET T m N D K X d (cp_term T f) := by
  intro S S1 v0 st τ su te ss ts o c e h hA hV hτ hts hss
  obtain ⟨w, S2, h1, h2⟩ := bd_inv h
  have g := gf S S2 w o c trivial h1
  have r := gt_tl t gf 150 S2 S1 v0 g.1.2.1 (g.1.cp c) h2
  have q := hf S S2 w st τ su te ss ts o c e trivial h1 (hA.pf r.1.2.2.2.2) (hV.sub (Nat.le_refl _) r.1.1) (by omega) (Or.inl hts)
  have z1 := r.1.2.2.2.2.1
  rcases q with ⟨fv, k1, st1, v1, v2, v3, v4, su1, te1, ss1, ts1, w1, w2⟩ | ⟨k1, st1, τ1, c1, v1, v2, v, pc', su1, te1, ss1, ts1, hpc, w1⟩
  · have hm : mulR (ts d) (te d) fv = some fv := by unfold mulR; rw [if_pos hts]
    have w1d := w1 d (by omega)
    have stp : ∀ v Z', eA d (VX X S2.1 0 su1 (upd te1 d fv) ss1 ts1) v Z' → eH d (VX X S.1 0 su te ss ts) v Z' := by
      intro v Z' hh
      refine w2 v Z' (fun r hr => ?_) (fun hn => ?_)
      · rw [hm] at hr; cases hr; exact hh
      · rw [hm] at hn; cases hn
    have rb : RB4 d su te su1 (upd te1 d fv) ss ts ss1 ts1 := fun j hj => by
      have z := w1 j (by omega)
      have zu : upd te1 d fv j = te1 j := by unfold upd; rw [if_neg (by omega)]
      exact ⟨z.1, zu.trans z.2.1, z.2.2.1, z.2.2.2⟩
    have ihq := ev_tl t hR hd gf hf 150 S2 S1 v0 st1 τ su1 (upd te1 d fv) ss1 ts1 g.1.2.1 (g.1.cp c) (g.1.2.2.1.trans e) h2 (hA.lo (Nat.le_of_lt g.2.2)) (hV.sub g.1.1 (Nat.le_refl _)) hτ (by rw [w1d.2.2.1]; exact hss) (by rw [upd_same, v3])
    rcases ihq with ⟨a, k2, st2, u1, u2, u3, u4, su2, te2, ss2, ts2, y1, y2, y3, y4, y5⟩ | ⟨k2, st2, τ2, c2, u1, u2, v, pc', su2, te2, ss2, ts2, hpc, y1⟩
    · left
      exact ⟨a, k1 + k2, st2, v1.tr u1, by omega, u3, fun j hj => (u4 j hj).trans (v4 j hj), su2, te2, ss2, ts2, rb.tr y1, y2.trans w1d.1, y3.trans w1d.2.2.1, y4, fun v Z' hh => stp _ _ (y5 _ _ hh)⟩
    · right
      exact ⟨k1 + k2, st2, τ2, c2, v1.te u1, by omega, v, pc', su2, te2, ss2, ts2, hpc, stp _ _ y1⟩
  · right
    exact ⟨k1, st1, τ1, c1, v1, by omega, v, pc', su1, te1, ss1, ts1, hpc, w1⟩
theorem ev_sl {d : Nat} {f : CS → CR} (t : TkOk T m) (hR : RT T m X) (hd : d ≤ 8) (gf : GX m f (fun _ => True)) (hf : ET T m N D K X d f) : ∀ n S S1 v0 st τ su te ss ts, Ok m S → Cp S → S.2.1 = N → cp_sl T f n S = (.inr v0, S1) → AGd D (cz S) S1 → VV T N K X S.1 S1.1 → τ ≤ 2 + 2 * d → ss d < 2147483648 → addR (su d) (ss d) (te d) = st τ → EO D K X S S1 st (τ + 1) (τ + 1) τ (eA d (VX X S.1 0 su te ss ts)) (GX2 X d S1 su te ss ts (eA d (VX X S.1 0 su te ss ts))) := by
  have tm := t.1
  intro n
  induction n with
  | zero =>
    intro S S1 v0 st τ su te ss ts o c e h hA hV hτ hss hte
    cases h
    exact Or.inl ⟨st τ, 0, st, VR.rf, by omega, rfl, fun _ _ => rfl, su, te, ss, ts, RB4.rf, hss, hte, fun _ _ h => h⟩
  | succ n ih =>
    intro S S1 v0 st τ su te ss ts o c e h hA hV hτ hss hte
    have o1 := o.1
    have go : ∀ q x, kd T S.1 = q → ((q = 19 ∧ x = 8) ∨ (q = 20 ∧ x = 9)) → bd f (fun _ S1 => cp_sl T f n (cadd S1 x 0 0)) (adv S) = (.inr v0, S1) → EO D K X S S1 st (τ + 1) (τ + 1) τ (eA d (VX X S.1 0 su te ss ts)) (GX2 X d S1 su te ss ts (eA d (VX X S.1 0 su te ss ts))) := by
      intro q x hk hqx h
      obtain ⟨w, S2, h1, h2⟩ := bd_inv h
      have g := ge_op t gf o c hk (by omega) (show x ≤ 20 by omega) h1
      have gA := ge_adv t o hk (by omega)
      have zz : cz (adv S) = cz S := rfl
      have r := gt_sl t gf n _ _ _ g.1.2.1 (g.1.cp c) h2
      have hz2 : cz S2 < 300 := by have := g.2.2.2.1.2.2.2.1; have := g.2.2.2.1.2.1.1; unfold Cp at c; omega
      have p2 : PF S2 (cadd S2 x 0 0) := PF.rf.add hz2
      have s21 : S2.1 ≤ S1.1 := r.1.1
      have A1 : AGd D (cz S) (cadd S2 x 0 0) := hA.pf r.1.2.2.2.2
      obtain ⟨a1, a2, a3, a4⟩ := A1.at hz2 PF.rf (by have := g.2.2.2.1.2.2.2.2.1; omega)
      have kk : r_pKind X S.1 = kap q := by rw [hR.1 _ o.1, hk]
      have hk2 : r_pKind X S.1 = 43 ∨ r_pKind X S.1 = 45 := by rw [kk]; rcases hqx with z | z <;> rw [z.1] <;> decide
      have hlt := t.lt o.1 hk (by omega)
      have stp := fun v Z' => eA_add (X := X) (pc := S.1) (fl := 0) (d := d) (su := su) (te := te) (ss := ss) (ts := ts) (v := v) (Z' := Z') (by omega) (by omega) hss hk2
      rw [hte] at stp
      have qq := hf (adv S) S2 w st (τ + 1) (upd su d (st τ)) te (va_up ss d (r_pKind X S.1)) (va_up ts d 0) gA.1.2.1 (gA.1.cp c) e h1 (A1.pf p2) (hV.sub (by omega) s21) (by omega) (va_same _ _ _) (by rw [va_same]; omega)
      rcases qq with ⟨tv, k1, st1, v1, v2, v3, v4, su1, te1, ss1, ts1, w1, w2, w3, w4, w5⟩ | ⟨k1, st1, τ1, c1, v1, v2, v, pc', su1, te1, ss1, ts1, hpc, w1⟩
      · have t1 : st1 τ = st τ := v4 τ (by omega)
        have vop := kx_op (K := K) (D := D) (st := st1) (τ := τ) (c := cz S2) (x := x) (by omega) a1 a2 (by omega) (by omega) (fun hh => by omega)
        rw [if_neg (show ¬ 13 ≤ x by omega), t1, v3] at vop
        rw [upd_same] at w2
        rw [va_same] at w3
        have hcal : mc_cal x (st τ) tv = addR (su1 d) (ss1 d) (te1 d) := by
          rw [w2, w3, w4, kk]
          unfold addR mc_cal
          rcases hqx with ⟨z1, z2⟩ | ⟨z1, z2⟩ <;> subst z1 <;> subst z2
          · rw [if_pos rfl, if_neg (by decide)]
          · rw [if_neg (by decide), if_pos rfl, if_pos (by decide)]
        rw [hcal] at vop
        have hz : cz (cadd S2 x 0 0) = cz S2 + 1 := g.2.2.2.2
        have ihq := ih (cadd S2 x 0 0) S1 v0 (upd st1 τ (addR (su1 d) (ss1 d) (te1 d))) τ su1 te1 ss1 ts1 g.1.2.1 (g.1.cp c) (by show S2.2.1 = N; rw [g.2.2.2.1.2.2.1]; exact e) h2 (hA.lo (by have := g.2.2.1; omega)) (hV.sub (by have := g.2.1; show S.1 ≤ S2.1; omega) (Nat.le_refl _)) hτ (by rw [w3]; omega) (by rw [upd_same])
        unfold EO at ihq
        rw [hz] at ihq
        rw [gA.2] at w5
        have stp2 : ∀ v Z', eA d (VX X S2.1 0 su1 te1 ss1 ts1) v Z' → eA d (VX X S.1 0 su te ss ts) v Z' := fun v Z' hh => stp v Z' (w5 v Z' hh)
        have rb : RB4 d su te su1 te1 ss ts ss1 ts1 := fun j hj => by
          have z := w1 j hj
          have z1 : upd su d (st τ) j = su j := by unfold upd; rw [if_neg (by omega)]
          have z2 : va_up ss d (r_pKind X S.1) j = ss j := by unfold va_up; rw [if_neg (by omega)]
          have z3 : va_up ts d 0 j = ts j := by unfold va_up; rw [if_neg (by omega)]
          exact ⟨z.1.trans z1, z.2.1, z.2.2.1.trans z2, z.2.2.2.trans z3⟩
        rcases ihq with ⟨a, k2, st2, u1, u2, u3, u4, su2, te2, ss2, ts2, y1, y2, y3, y4⟩ | ⟨k2, st2, τ2, c2, u1, u2, v, pc', su2, te2, ss2, ts2, hpc, y1⟩
        · left
          refine ⟨a, k1 + 1 + k2, st2, (v1.tr vop).tr u1, by omega, u3, fun j hj => ?_, su2, te2, ss2, ts2, rb.tr y1, y2, y3, fun v Z' hh => stp2 _ _ (y4 _ _ hh)⟩
          rw [u4 j hj]
          unfold upd
          rw [if_neg (by omega), v4 j (by omega)]
        · right
          exact ⟨k1 + 1 + k2, st2, τ2, c2, (v1.tr vop).te u1, by omega, v, pc', su2, te2, ss2, ts2, hpc, stp2 _ _ y1⟩
      · right
        have := r.1.2.2.2.2.1
        rw [g.2.2.2.2] at this
        refine ⟨k1, st1, τ1, c1, v1, by omega, v, pc', su1, te1, ss1, ts1, hpc, stp _ _ ?_⟩
        rw [gA.2] at w1
        exact w1
    unfold cp_sl at h
    split at h
    · exact go 19 8 (by assumption) (Or.inl ⟨rfl, rfl⟩) h
    · split at h
      · exact go 20 9 (by assumption) (Or.inr ⟨rfl, rfl⟩) h
      · cases h
        exact Or.inl ⟨st τ, 0, st, VR.rf, by omega, rfl, fun _ _ => rfl, su, te, ss, ts, RB4.rf, hss, hte, fun _ _ h => h⟩
theorem ev_ex {d : Nat} {f : CS → CR} (t : TkOk T m) (hR : RT T m X) (hd : d ≤ 8) (gf : GX m f (fun _ => True)) (hf : ET T m N D K X d f) : EE T m N D K X d (cp_ex T f) := by
  intro S S1 v0 st τ su te ss ts o c e h hA hV hτ
  have tm := t.1
  have o1 := o.1
  have kk : r_pKind X S.1 = kap (kd T S.1) := hR.1 _ o.1
  have kl : r_pKind X S.1 < 100 := by rw [kk]; exact kap_lt9 _ (t.some o.1).2
  have stp := fun v Z' => eE_of (X := X) (pc := S.1) (fl := 0) (d := d) (su := su) (te := te) (ss := ss) (ts := ts) (v := v) (Z' := Z') (by omega) (by omega) (by omega)
  have z1 : ∀ j, j < d → upd su d (nI 0) j = su j := fun j hj => by unfold upd; rw [if_neg (by omega)]
  have z2 : ∀ j, j < d → va_up ss d (r_pKind X S.1) j = ss j := fun j hj => by unfold va_up; rw [if_neg (by omega)]
  have z3 : ∀ j, j < d → va_up ts d 0 j = ts j := fun j hj => by unfold va_up; rw [if_neg (by omega)]
  unfold cp_ex at h
  split at h
  · rename_i hk
    have k45 : r_pKind X S.1 = 45 := by rw [kk, hk]; rfl
    rw [if_pos k45] at stp
    obtain ⟨w, S2, h1, h2⟩ := bd_inv h
    have g := ge_op t gf o c hk (by decide) (show 7 ≤ 20 by decide) h1
    have gA := ge_adv t o hk (by decide)
    have zz : cz (adv S) = cz S := rfl
    have r := gt_sl t gf 150 _ _ _ g.1.2.1 (g.1.cp c) h2
    have hz2 : cz S2 < 300 := by have := g.2.2.2.1.2.2.2.1; have := g.2.2.2.1.2.1.1; unfold Cp at c; omega
    have p2 : PF S2 (cadd S2 7 0 0) := PF.rf.add hz2
    have s21 : S2.1 ≤ S1.1 := r.1.1
    have A1 : AGd D (cz S) (cadd S2 7 0 0) := hA.pf r.1.2.2.2.2
    obtain ⟨a1, a2, a3, a4⟩ := A1.at hz2 PF.rf (by have := g.2.2.2.1.2.2.2.2.1; omega)
    have qq := hf (adv S) S2 w st τ (upd su d (nI 0)) te (va_up ss d (r_pKind X S.1)) (va_up ts d 0) gA.1.2.1 (gA.1.cp c) e h1 (A1.pf p2) (hV.sub (by omega) s21) (by omega) (va_same _ _ _) (by rw [va_same]; omega)
    rcases qq with ⟨tv, k1, st1, v1, v2, v3, v4, su1, te1, ss1, ts1, w1, w2, w3, w4, w5⟩ | ⟨k1, st1, τ1, c1, v1, v2, v, pc', su1, te1, ss1, ts1, hpc, w1⟩
    · have vop := kx_neg (K := K) (D := D) (st := st1) (τ := τ) (c := cz S2) (by omega) a1 a2
      rw [upd_same] at w2
      rw [va_same] at w3
      rw [v3] at vop
      have hcal : -tv = addR (su1 d) (ss1 d) (te1 d) := by
        rw [w2, w3, w4, k45]
        unfold addR
        rw [if_pos rfl, i32_0sub]
      rw [hcal] at vop
      have hz : cz (cadd S2 7 0 0) = cz S2 + 1 := g.2.2.2.2
      have ihq := ev_sl t hR hd gf hf 150 (cadd S2 7 0 0) S1 v0 (upd st1 τ (addR (su1 d) (ss1 d) (te1 d))) τ su1 te1 ss1 ts1 g.1.2.1 (g.1.cp c) (by show S2.2.1 = N; rw [g.2.2.2.1.2.2.1]; exact e) h2 (hA.lo (by have := g.2.2.1; omega)) (hV.sub (by have := g.2.1; show S.1 ≤ S2.1; omega) (Nat.le_refl _)) hτ (by rw [w3]; omega) (by rw [upd_same])
      unfold EO at ihq
      rw [hz] at ihq
      rw [gA.2] at w5
      have stp2 : ∀ v Z', eA d (VX X S2.1 0 su1 te1 ss1 ts1) v Z' → eE d (VX X S.1 0 su te ss ts) v Z' := fun v Z' hh => stp v Z' (w5 v Z' hh)
      have rb : RB4 d su te su1 te1 ss ts ss1 ts1 := fun j hj => by
        have z := w1 j hj
        exact ⟨z.1.trans (z1 j hj), z.2.1, z.2.2.1.trans (z2 j hj), z.2.2.2.trans (z3 j hj)⟩
      rcases ihq with ⟨a, k2, st2, u1, u2, u3, u4, su2, te2, ss2, ts2, y1, y2, y3, y4⟩ | ⟨k2, st2, τ2, c2, u1, u2, v, pc', su2, te2, ss2, ts2, hpc, y1⟩
      · left
        refine ⟨a, k1 + 1 + k2, st2, (v1.tr vop).tr u1, by omega, u3, fun j hj => ?_, su2, te2, ss2, ts2, rb.tr y1, y2, y3, fun v Z' hh => stp2 _ _ (y4 _ _ hh)⟩
        rw [u4 j hj]
        unfold upd
        rw [if_neg (by omega), v4 j (by omega)]
      · right
        exact ⟨k1 + 1 + k2, st2, τ2, c2, (v1.tr vop).te u1, by omega, v, pc', su2, te2, ss2, ts2, hpc, stp2 _ _ y1⟩
    · right
      have := r.1.2.2.2.2.1
      rw [g.2.2.2.2] at this
      refine ⟨k1, st1, τ1, c1, v1, by omega, v, pc', su1, te1, ss1, ts1, hpc, stp _ _ ?_⟩
      rw [gA.2] at w1
      exact w1
  · rename_i hk
    have k45 : ¬ r_pKind X S.1 = 45 := by rw [kk]; exact fun q => hk (kap_inj _ (t.some o.1).2 20 (by decide) q)
    rw [if_neg k45] at stp
    obtain ⟨w, S2, h1, h2⟩ := bd_inv h
    have g := gf S S2 w o c trivial h1
    have r := gt_sl t gf 150 S2 S1 v0 g.1.2.1 (g.1.cp c) h2
    have zr := r.1.2.2.2.2.1
    have qq := hf S S2 w st τ (upd su d (nI 0)) te (va_up ss d (r_pKind X S.1)) (va_up ts d 0) o c e h1 (hA.pf r.1.2.2.2.2) (hV.sub (Nat.le_refl _) r.1.1) (by omega) (va_same _ _ _) (by rw [va_same]; omega)
    rcases qq with ⟨tv, k1, st1, v1, v2, v3, v4, su1, te1, ss1, ts1, w1, w2, w3, w4, w5⟩ | ⟨k1, st1, τ1, c1, v1, v2, v, pc', su1, te1, ss1, ts1, hpc, w1⟩
    · rw [upd_same] at w2
      rw [va_same] at w3
      have hcal : addR (su1 d) (ss1 d) (te1 d) = st1 τ := by
        rw [w2, w3, w4, v3]
        unfold addR
        rw [if_neg k45, i32_0add]
      have ihq := ev_sl t hR hd gf hf 150 S2 S1 v0 st1 τ su1 te1 ss1 ts1 g.1.2.1 (g.1.cp c) (g.1.2.2.1.trans e) h2 (hA.lo (Nat.le_of_lt g.2.2)) (hV.sub g.1.1 (Nat.le_refl _)) hτ (by rw [w3]; omega) hcal
      have stp2 : ∀ v Z', eA d (VX X S2.1 0 su1 te1 ss1 ts1) v Z' → eE d (VX X S.1 0 su te ss ts) v Z' := fun v Z' hh => stp v Z' (w5 v Z' hh)
      have rb : RB4 d su te su1 te1 ss ts ss1 ts1 := fun j hj => by
        have z := w1 j hj
        exact ⟨z.1.trans (z1 j hj), z.2.1, z.2.2.1.trans (z2 j hj), z.2.2.2.trans (z3 j hj)⟩
      rcases ihq with ⟨a, k2, st2, u1, u2, u3, u4, su2, te2, ss2, ts2, y1, y2, y3, y4⟩ | ⟨k2, st2, τ2, c2, u1, u2, v, pc', su2, te2, ss2, ts2, hpc, y1⟩
      · left
        exact ⟨a, k1 + k2, st2, v1.tr u1, by omega, u3, fun j hj => (u4 j hj).trans (v4 j hj), su2, te2, ss2, ts2, rb.tr y1, y2, y3, fun v Z' hh => stp2 _ _ (y4 _ _ hh)⟩
      · right
        exact ⟨k1 + k2, st2, τ2, c2, v1.te u1, by omega, v, pc', su2, te2, ss2, ts2, hpc, stp2 _ _ y1⟩
    · right
      exact ⟨k1, st1, τ1, c1, v1, by omega, v, pc', su1, te1, ss1, ts1, hpc, stp _ _ w1⟩
theorem ev_brk {n d : Nat} (t : TkOk T m) (hR : RT T m X) (hd : d + 1 ≤ 8) (hx : EE T m N D K X (d + 1) (cp_expr T n)) : EF T m N D K X d (cp_brk T (n + 1)) (fun S => kd T S.1 = 13) := by
  intro S S1 v0 st τ su te ss ts o c e hk h hA hV hτ hts
  have tm := t.1
  have o1 := o.1
  have htl : ts d < 2147483648 := by unfold tsok at hts; omega
  have hlt := t.lt o.1 hk (by decide)
  have k40 : r_pKind X S.1 = 40 := by rw [hR.1 _ o.1, hk]; rfl
  have ha := ge_adv t o hk (by decide)
  have zz : cz (adv S) = cz S := rfl
  obtain ⟨w, S2, h1, h2⟩ := bd_inv h
  have g := gx_expr t n (adv S) S2 w ha.1.2.1 (ha.1.cp c) trivial h1
  have e2 := ge_expect t (by decide) g.1.2.1 h2
  have o2 := g.1.2.1.1
  have hz : cz S1 = cz S2 := by rw [e2.2.2.1]; rfl
  have qq := hx (adv S) S2 w st τ su te ss ts ha.1.2.1 (ha.1.cp c) e h1 (hA.pf e2.1.2.2.2.2) (hV.sub (by omega) (by omega)) (by omega)
  have stp := fun v Z' => eH_brk (X := X) (pc := S.1) (d := d) (su := su) (te := te) (ss := ss) (ts := ts) (v := v) (Z' := Z') (by omega) k40
  rcases qq with ⟨a, k1, st1, v1, v2, v3, v4, su1, te1, ss1, ts1, w1, w2, w3, w4⟩ | ⟨k1, st1, τ1, c1, v1, v2, v, pc', su1, te1, ss1, ts1, hpc, w1⟩
  · left
    rw [ha.2] at w4
    refine ⟨a, k1, st1, by rw [hz]; exact v1, by omega, v3, v4, upd su1 (d + 1) a, te1, ss1, ts1, fun j hj => ?_, fun v Z' h1 h2 => ?_⟩
    · have z := w1 j hj
      have zu : upd su1 (d + 1) a j = su1 j := by unfold upd; rw [if_neg (by omega)]
      exact ⟨zu.trans z.1, z.2.1, z.2.2.1, z.2.2.2⟩
    · have w1d := w1 d (by omega)
      have k41 : r_pKind X S2.1 = 41 := by rw [hR.1 _ o2, e2.2.2.2]; rfl
      rw [e2.2.1] at h1 h2
      refine stp v Z' (w4 v Z' ?_)
      rcases hm : mulR (ts d) (te d) a with _ | r
      · have mn := mul_no (X := X) (pc := S2.1 + 1) (fl := 0) (d := d) (su := upd su1 (d + 1) a) (te := te1) (ss := ss1) (ts := ts1) (f := a) (by omega) (by rw [w1d.2.2.2]; exact htl) (by rw [w1d.2.2.2, w1d.2.1]; exact hm)
        refine eA_close (fl' := 2) (te' := te1) (by omega) (by omega) k41 w2 ?_ ?_
        · rw [w3]; exact mn
        · rw [w3]; exact h2 hm
      · have mn := mul_ok (X := X) (pc := S2.1 + 1) (fl := 0) (d := d) (su := upd su1 (d + 1) a) (te := te1) (ss := ss1) (ts := ts1) (f := a) (r := r) (by omega) (by rw [w1d.2.2.2]; exact htl) (by rw [w1d.2.2.2]; exact hts) (by rw [w1d.2.2.2, w1d.2.1]; exact hm)
        refine eA_close (fl' := 0) (te' := upd te1 d r) (by omega) (by omega) k41 w2 ?_ ?_
        · rw [w3]; exact mn
        · rw [w3]; exact h1 r hm
  · right
    rw [ha.2] at w1
    exact ⟨k1, st1, τ1, c1, v1, by omega, v, pc', su1, te1, ss1, ts1, hpc, stp _ _ w1⟩
theorem ev_expr (t : TkOk T m) (hR : RT T m X) : ∀ n d, d + n = 8 → EE T m N D K X d (cp_expr T n) := by
  intro n
  induction n with
  | zero =>
    intro d hd
    have e : cp_expr T 0 = cp_ex T (cp_term T (cp_fact T (cp_no T))) := rfl
    rw [e]
    have gf := gx_fact t (x := cp_no T) gx_no
    exact ev_ex t hR (by omega) (gx_term t gf) (ev_term t hR (by omega) gf (ev_fact t hR (by omega) (fun S S1 v0 st τ su te ss ts _ _ _ _ h => by cases h)))
  | succ n ih =>
    intro d hd
    rw [cp_expr_eq]
    have gf := gx_fact t (gx_brk t (gx_expr t n))
    exact ev_ex t hR (by omega) (gx_term t gf) (ev_term t hR (by omega) gf (ev_fact t hR (by omega) (ev_brk t hR (by omega) (ih (d + 1) (by omega)))))
/-! behind an expression stands no operator -/
theorem en_tl {f : CS → CR} (t : TkOk T m) (gf : GX m f (fun _ => True)) : ∀ n S S1 v, m ≤ S.1 + n → Ok m S → Cp S → cp_tl T f n S = (.inr v, S1) → nomul T S1 := by
  intro n
  induction n with
  | zero => intro S S1 v hm o c h; cases h; exact (mulop_last t o.1 hm).1
  | succ n ih =>
    intro S S1 v hm o c h
    unfold cp_tl at h
    split at h
    · cases h; assumption
    · rename_i x hx
      obtain ⟨w, S2, h1, h2⟩ := bd_inv h
      have g := ge_op t gf o c rfl (mulop_lt hx).1 (mulop_lt hx).2 h1
      exact ih _ _ _ (by have := g.2.1; show m ≤ S2.1 + n; omega) g.1.2.1 (g.1.cp c) h2
theorem en_sl {f : CS → CR} (t : TkOk T m) (gf : GX m f (fun _ => True)) (hf : ∀ S S1 v, Ok m S → Cp S → f S = (.inr v, S1) → nomul T S1) : ∀ n S S1 v, m ≤ S.1 + n → Ok m S → Cp S → nomul T S → cp_sl T f n S = (.inr v, S1) → nop T S1 := by
  intro n
  induction n with
  | zero => intro S S1 v hm o c _ h; cases h; exact mulop_last t o.1 hm
  | succ n ih =>
    intro S S1 v hm o c hn h
    have go : ∀ q x, kd T S.1 = q → q < 27 → x ≤ 20 → bd f (fun _ S1 => cp_sl T f n (cadd S1 x 0 0)) (adv S) = (.inr v, S1) → nop T S1 := by
      intro q x hk hq hx h
      obtain ⟨w, S2, h1, h2⟩ := bd_inv h
      have g := ge_op t gf o c hk hq hx h1
      have gA := ge_adv t o hk hq
      exact ih _ _ _ (by have := g.2.1; show m ≤ S2.1 + n; omega) g.1.2.1 (g.1.cp c) (hf (adv S) S2 w gA.1.2.1 (gA.1.cp c) h1) h2
    unfold cp_sl at h
    split at h
    · exact go 19 8 (by assumption) (by decide) (by decide) h
    · split at h
      · exact go 20 9 (by assumption) (by decide) (by decide) h
      · cases h; exact ⟨hn, by assumption, by assumption⟩
theorem en_expr (t : TkOk T m) {n v : Nat} {S S1 : CS} (o : Ok m S) (c : Cp S) (h : cp_expr T n S = (.inr v, S1)) : nop T S1 := by
  have tm := t.1
  have gb : GX m (cp_brk T n) (fun S => kd T S.1 = 13) := by
    cases n with
    | zero => exact gx_no
    | succ n => exact gx_brk t (gx_expr t n)
  have gf := gx_fact t gb
  have gt := gx_term t gf
  have ef : ∀ S S1 v, Ok m S → Cp S → cp_term T (cp_fact T (cp_brk T n)) S = (.inr v, S1) → nomul T S1 := by
    intro S S1 v o c h
    obtain ⟨w, S2, h1, h2⟩ := bd_inv h
    have g := gf S S2 w o c trivial h1
    exact en_tl t gf 150 S2 S1 v (by omega) g.1.2.1 (g.1.cp c) h2
  rw [cp_expr_eq] at h
  unfold cp_ex at h
  split at h
  · rename_i hk
    obtain ⟨w, S2, h1, h2⟩ := bd_inv h
    have g := ge_op (x := 7) t gt o c hk (by decide) (by decide) h1
    have gA := ge_adv t o hk (by decide)
    exact en_sl t gt ef 150 _ _ _ (by omega) g.1.2.1 (g.1.cp c) (ef (adv S) S2 w gA.1.2.1 (gA.1.cp c) h1) h2
  · obtain ⟨w, S2, h1, h2⟩ := bd_inv h
    have g := gt S S2 w o c trivial h1
    exact en_sl t gt ef 150 S2 S1 v (by omega) g.1.2.1 (g.1.cp c) (ef S S2 w o c h1) h2
/-- an expression evaluated on both sides -/
def TV (D : Co) (K : Mc) (X : MS) (S S1 : CS) (st : Nat → Int32) (τ : Nat) (su te : Nat → Int32) (ss ts : Nat → Nat) : Prop :=
  (∃ a k st', VR D k (KX K st τ (cz S)) (KX K st' (τ + 1) (cz S1)) ∧ k + cz S ≤ cz S1 ∧ st' τ = a ∧ (∀ j, j < τ → st' j = st j) ∧ ∃ su' te' ss' ts', mo_evaluate (VX X S.1 0 su te ss ts) a (VX X S1.1 0 su' te' ss' ts')) ∨
  (∃ k st' τ' c', VE D k (KX K st τ (cz S)) ARE (KX K st' τ' c') ∧ k + cz S ≤ cz S1 ∧ ∃ v pc su' te' ss' ts', pc < 155 ∧ mo_evaluate (VX X S.1 0 su te ss ts) v (VX X pc 2 su' te' ss' ts'))
theorem ev_top (t : TkOk T m) (hR : RT T m X) {S S1 : CS} {v0 τ : Nat} {st su te : Nat → Int32} {ss ts : Nat → Nat} (o : Ok m S) (c : Cp S) (e : S.2.1 = N) (h : cp_expr T 8 S = (.inr v0, S1)) (hA : AGd D (cz S) S1) (hV : VV T N K X S.1 S1.1) (hτ : τ ≤ 2) : TV D K X S S1 st τ su te ss ts := by
  have tm := t.1
  have g := gx_expr t 8 S S1 v0 o c trivial h
  have o2 := g.1.2.1.1
  have nn := en_expr t o c h
  rcases ev_expr t hR 8 0 rfl S S1 v0 st τ su te ss ts o c e h hA hV (by omega) with ⟨a, k1, st1, v1, v2, v3, v4, su1, te1, ss1, ts1, w1, w2, w3, w4⟩ | ⟨k1, st1, τ1, c1, v1, v2, v, pc', su1, te1, ss1, ts1, hpc, w1⟩
  · left
    refine ⟨a, k1, st1, v1, v2, v3, v4, upd su1 0 a, te1, ss1, ts1, ?_⟩
    have kk : r_pKind X S1.1 = kap (kd T S1.1) := hR.1 _ o2
    have ee := eA_end (X := X) (pc := S1.1) (fl := 0) (d := 0) (su := su1) (te := te1) (ss := ss1) (ts := ts1) (by omega) (by decide) w2 (by rw [kk]; have := kap_lt9 _ (t.some o2).2; omega) (by rw [kk]; exact isOp_nop _ (t.some o2).2 nn.1 nn.2.1 nn.2.2) (Or.inl rfl) (by decide)
    rw [w3] at ee
    exact w4 _ _ ee
  · right
    exact ⟨k1, st1, τ1, c1, v1, v2, v, pc', su1, te1, ss1, ts1, hpc, w1⟩
end E2
