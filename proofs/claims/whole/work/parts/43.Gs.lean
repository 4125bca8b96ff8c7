/-! ===== statements: how much is written ===== -/
def GS (m : Nat) (S S1 : CS) : Prop := S.1 ≤ S1.1 ∧ Ok m S1 ∧ S1.2.1 = S.2.1 ∧ cz S1 + 2 * S.1 ≤ cz S + 2 * S1.1 ∧ PF S S1
theorem GS.rf {m : Nat} {S : CS} (o : Ok m S) : GS m S S := ⟨Nat.le_refl _, o, rfl, Nat.le_refl _, PF.rf⟩
theorem GS.tr {m : Nat} {A B C : CS} (h : GS m A B) (k : GS m B C) : GS m A C := ⟨Nat.le_trans h.1 k.1, k.2.1, k.2.2.1.trans h.2.2.1, by have := h.2.2.2.1; have := k.2.2.2.1; omega, h.2.2.2.2.tr k.2.2.2.2⟩
def C2 (S : CS) : Prop := cz S ≤ 2 * S.1
theorem GS.c2 {m : Nat} {S S1 : CS} (h : GS m S S1) (c : C2 S) : C2 S1 := by
  have := h.2.2.2.1; have := h.1; unfold C2 at *; omega
def GSx (m : Nat) (x : CS → CR) (p : CS → Prop) : Prop := ∀ S S1 v, Ok m S → C2 S → p S → x S = (.inr v, S1) → GS m S S1
theorem ok_addS {m : Nat} {S : CS} (o : Ok m S) {x f t : Nat} (hx : x ≤ 20) : Ok m (cadd S x f t) := ok_add o hx
/-- a condition: the jump stands last -/
theorem gs_cond {T : Tk} {m e : Nat} (t : TkOk T m) {S S1 : CS} (o : Ok m S) (c : Cp S) (h : cp_cond T S = (.inr e, S1)) : S.1 < S1.1 ∧ Ok m S1 ∧ S1.2.1 = S.2.1 ∧ cz S1 + S.1 ≤ cz S + S1.1 + 1 ∧ PF S S1 ∧ e + 1 = cz S1 ∧ cz S ≤ e ∧ ∃ w2 w3 S2 S3 x, cp_expr T 8 S = (.inr w2, S2) ∧ cmpop (kd T S2.1) = some x ∧ cp_expr T 8 (adv S2) = (.inr w3, S3) ∧ S1 = cadd (cadd S3 x 0 0) 17 0 0 ∧ GE m S S2 ∧ GE m (adv S2) S3 ∧ (adv S2).1 = S2.1 + 1 ∧ cz (cadd S3 x 0 0) = cz S3 + 1 ∧ cz S1 = cz S3 + 2 ∧ cz S3 + 2 ≤ 300 := by
  have tm := t.1
  obtain ⟨w2, S2, h1, h2⟩ := bd_inv h
  have g1 := gx_expr t 8 S S2 w2 o c trivial h1
  split at h2
  · cases h2
  · rename_i x hx
    have ha := ge_adv t g1.1.2.1 rfl (cmpop_lt hx).1
    obtain ⟨w3, S3, h3, h4⟩ := bd_inv h2
    have g3 := gx_expr t 8 (adv S2) S3 w3 ha.1.2.1 (ha.1.cp (g1.1.cp c)) trivial h3
    have g4 : GE m S S3 := g1.1.tr (ha.1.tr g3.1)
    have q1 := g1.1.2.2.2.1
    have q3 := g3.1.2.2.2.1
    have q5 : cz (adv S2) = cz S2 := rfl
    have q6 := g3.1.2.1.1
    have q7 := g3.2.1
    have z1 : cz S3 < 300 := by unfold Cp at c; omega
    have z2 : cz (cadd S3 x 0 0) = cz S3 + 1 := cz_add z1
    have z2' : cz (cadd S3 x 0 0) < 300 := by rw [z2]; unfold Cp at c; omega
    have z3 : cz (cadd (cadd S3 x 0 0) 17 0 0) = cz S3 + 2 := by rw [cz_add z2', z2]
    cases h4
    refine ⟨?_, ok_add (ok_add g3.1.2.1 (cmpop_lt hx).2) (by decide), g4.2.2.1, ?_, (g4.2.2.2.2.add z1).add z2', ?_, ?_, w2, w3, S2, S3, x, h1, hx, h3, rfl, g1.1, g3.1, ha.2, z2, z3, by omega⟩
    · show S.1 < S3.1; have := g1.2.1; omega
    · rw [z3]; show cz S3 + 2 + S.1 ≤ cz S + S3.1 + 1; omega
    · rw [z3]; show (cadd S3 x 0 0).2.2.2.2.2.2.2.2.1 + 1 = _; have : cz (cadd S3 x 0 0) = (cadd S3 x 0 0).2.2.2.2.2.2.2.2.1 := rfl; omega
    · show cz S ≤ cz (cadd S3 x 0 0); have := g1.2.2; have := g3.2.2; omega
theorem step_cp {S S0 : CS} (hz : cz S = cz S0) (h1 : S.1 = S0.1 + 1) (c : C2 S0) (h0 : S0.1 < 150) : cz (cadd S 0 0 0) = cz S0 + 1 ∧ Cp (cadd S 0 0 0) := by
  have z : cz S < 300 := by unfold C2 at c; omega
  have e := cz_add (x := 0) (f := 0) (t := 0) z
  refine ⟨by omega, ?_⟩
  unfold Cp
  rw [e]
  show cz S + 1 < 2 * S.1
  unfold C2 at c
  omega
theorem gs_write {T : Tk} {m : Nat} (t : TkOk T m) : GSx m (fun S => cp_write T (adv S)) (fun S => kd T S.1 = 9) := by
  intro S S1 v o c hk h
  have tm := t.1
  have hl := t.lt o.1 hk (by decide)
  have ha := ge_adv t o hk (by decide)
  have sc := step_cp (S := adv S) (S0 := S) rfl ha.2 c (by omega)
  obtain ⟨w2, S2, h1, h2⟩ := bd_inv h
  have e2 := ge_expect t (by decide) (ok_add ha.1.2.1 (by decide)) h1
  obtain ⟨w3, S3, h3, h4⟩ := bd_inv h2
  have g3 := gx_expr t 8 S2 S3 w3 e2.1.2.1 (e2.1.cp sc.2) trivial h3
  obtain ⟨w4, S4, h5, h6⟩ := bd_inv h4
  have e4 := ge_expect t (by decide) g3.1.2.1 h5
  have zA : cz (adv S) < 300 := by show cz S < 300; unfold C2 at c; omega
  have P1 : PF S (cadd (adv S) 0 0 0) := PF.rf.adv.add zA
  have a1 : (cadd (adv S) 0 0 0).1 = S.1 + 1 := ha.2
  have q2 := e2.1.2.2.2.1
  have q3 := g3.1.2.2.2.1
  have q4 := e4.1.2.2.2.1
  have q5 := g3.2.1
  have q6 := e4.1.2.1.1
  have z4 : cz S4 < 300 := by unfold C2 at c; omega
  have z5 := cz_add (x := 20) (f := 0) (t := 0) z4
  cases h6
  refine ⟨by show S.1 ≤ S4.1; omega, ok_add e4.1.2.1 (by decide), ?_, by rw [z5]; show cz S4 + 1 + 2 * S.1 ≤ cz S + 2 * S4.1; omega, ((P1.tr e2.1.2.2.2.2).tr (g3.1.2.2.2.2.tr e4.1.2.2.2.2)).add z4⟩
  show S4.2.1 = S.2.1
  rw [e4.1.2.2.1, g3.1.2.2.1, e2.1.2.2.1]; rfl
theorem gs_assign {T : Tk} {m : Nat} (t : TkOk T m) : GSx m (cp_assign T) (fun S => kd T S.1 = 25) := by
  intro S S1 v o c hk h
  have tm := t.1
  have hl := t.lt o.1 hk (by decide)
  unfold cp_assign at h
  split at h
  · cases h
  · rename_i i hi
    split at h
    · cases h
    · have zA : cz S < 300 := by unfold C2 at c; omega
      have o2 := ok_add (x := 0) (f := 0) (t := 0) o (by decide)
      have ha := ge_adv (S := cadd S 0 0 0) t o2 hk (by decide)
      have a1 : (adv (cadd S 0 0 0)).1 = S.1 + 1 := ha.2
      have z1 : cz (adv (cadd S 0 0 0)) = cz S + 1 := cz_add zA
      have P1 : PF S (adv (cadd S 0 0 0)) := (PF.rf.add zA).adv
      obtain ⟨w2, S2, h1, h2⟩ := bd_inv h
      have e2 := ge_expect t (by decide) ha.1.2.1 h1
      obtain ⟨w3, S3, h3, h4⟩ := bd_inv h2
      have cc : Cp (adv (cadd S 0 0 0)) := by unfold Cp; unfold C2 at c; omega
      have g3 := gx_expr t 8 S2 S3 w3 e2.1.2.1 (e2.1.cp cc) trivial h3
      have q2 := e2.1.2.2.2.1
      have q3 := g3.1.2.2.2.1
      have q5 := g3.2.1
      have q6 := g3.1.2.1.1
      have z4 : cz S3 < 300 := by unfold C2 at c; omega
      have z5 := fun x f t => cz_add (x := x) (f := f) (t := t) z4
      cases h4
      refine ⟨by show S.1 ≤ S3.1; omega, ok_add g3.1.2.1 (by split <;> decide), ?_, by rw [z5]; show cz S3 + 1 + 2 * S.1 ≤ cz S + 2 * S3.1; omega, ((P1.tr e2.1.2.2.2.2).tr g3.1.2.2.2.2).add z4⟩
      show S3.2.1 = S.2.1
      rw [g3.1.2.2.1, e2.1.2.2.1]; rfl
/-- arguments -/
theorem ge_adr {m : Nat} {S0 S : CS} {k : Nat} (h : GE m S0 S) (hk : cz S0 ≤ k) : GE m S0 (cadr S k) := ⟨h.1, ok_adr h.2.1, h.2.2.1, by rw [cz_adr]; exact h.2.2.2.1, h.2.2.2.2.adr hk⟩
theorem ge_al {T : Tk} {m q : Nat} (t : TkOk T m) : ∀ n r S S1 v, Ok m S → Cp S → cp_al T q n r S = (.inr v, S1) → GE m S S1 ∧ S.1 < S1.1 := by
  intro n
  induction n with
  | zero =>
    intro r S S1 v o c h
    obtain ⟨w2, S2, h1, h2⟩ := bd_inv h
    have e2 := ge_expect t (by decide) o h1
    cases h2
    exact ⟨e2.1, by omega⟩
  | succ n ih =>
    intro r S S1 v o c h
    rw [cp_al] at h
    obtain ⟨w2, S2, h1, h2⟩ := bd_inv h
    have g2 := gx_expr t 8 S S2 w2 o c trivial h1
    have fin : ∀ Z, GE m S Z → S2.1 = Z.1 → (if kd T S2.1 = 12 then cp_al T q n (r + 1) (adv Z) else bd (cp_expect T 14) (fun _ => cret (r + 1)) Z) = (.inr v, S1) → GE m S S1 ∧ S.1 < S1.1 := by
      intro Z gz ez h
      split at h
      · rename_i hk
        rw [ez] at hk
        have ha := ge_adv t gz.2.1 hk (by decide)
        have r := ih _ _ _ _ ha.1.2.1 (ha.1.cp (gz.cp c)) h
        exact ⟨gz.tr (ha.1.tr r.1), by have := gz.1; have := r.1.1; omega⟩
      · obtain ⟨w3, S3, h3, h4⟩ := bd_inv h
        have e2 := ge_expect t (by decide) gz.2.1 h3
        cases h4
        exact ⟨gz.tr e2.1, by have := gz.1; have := e2.2.1; omega⟩
    split at h2
    · split at h2
      · exact fin (cadr S2 S.2.2.2.2.2.2.2.2.1) (ge_adr g2.1 (Nat.le_refl _)) rfl h2
      · cases h2
    · exact fin S2 g2.1 rfl h2
theorem ge_args {T : Tk} {m q v : Nat} (t : TkOk T m) {S S1 : CS} (o : Ok m S) (c : Cp S) (h : cp_args T q S = (.inr v, S1)) : GE m S S1 := by
  unfold cp_args at h
  split at h
  · rename_i hk
    have ha := ge_adv t o hk (by decide)
    exact ha.1.tr (ge_al t _ _ _ _ _ ha.1.2.1 (ha.1.cp c) h).1
  · cases h; exact GE.rf o
theorem gs_call {T : Tk} {m : Nat} (t : TkOk T m) : GSx m (cp_call T) (fun S => kd T S.1 = 25) := by
  intro S S1 v o c hk h
  have tm := t.1
  have hl := t.lt o.1 hk (by decide)
  unfold cp_call at h
  split at h
  · cases h
  · rename_i i hi
    split at h
    · have zA : cz S < 300 := by unfold C2 at c; omega
      have o2 := ok_add (x := 0) (f := 0) (t := 0) o (by decide)
      have ha := ge_adv (S := cadd S 0 0 0) t o2 hk (by decide)
      have a1 : (adv (cadd S 0 0 0)).1 = S.1 + 1 := ha.2
      have z1 : cz (adv (cadd S 0 0 0)) = cz S + 1 := cz_add zA
      have P1 : PF S (adv (cadd S 0 0 0)) := (PF.rf.add zA).adv
      have cc : Cp (adv (cadd S 0 0 0)) := by unfold Cp; unfold C2 at c; omega
      obtain ⟨w2, S2, h1, h2⟩ := bd_inv h
      have g3 := ge_args t ha.1.2.1 cc h1
      have q3 := g3.2.2.2.1
      have q5 := g3.1
      have q6 := g3.2.1.1
      have z4 : cz S2 < 300 := by unfold C2 at c; omega
      have z5 := fun x f t => cz_add (x := x) (f := f) (t := t) z4
      split at h2
      · cases h2
        refine ⟨by show S.1 ≤ S2.1; omega, ok_add g3.2.1 (by decide), ?_, by rw [z5]; show cz S2 + 1 + 2 * S.1 ≤ cz S + 2 * S2.1; omega, (P1.tr g3.2.2.2.2).add z4⟩
        show S2.2.1 = S.2.1
        rw [g3.2.2.1]; rfl
      · cases h2
    · cases h
theorem gs_jmp {m : Nat} {S0 S : CS} {k : Nat} (h : GS m S0 S) (hk : cz S0 ≤ k) : GS m S0 (cjmp S k) := ⟨h.1, ok_jmp h.2.1, h.2.2.1, by rw [cz_jmp]; exact h.2.2.2.1, h.2.2.2.2.jmp hk⟩
theorem gs_head {T : Tk} {m e : Nat} (t : TkOk T m) {S S1 : CS} (o : Ok m S) (c : C2 S) {q : Nat} (hk : kd T S.1 = q) (hq : q < 27) (h : cp_cond T (cadd (adv S) 0 0 0) = (.inr e, S1)) {q2 v : Nat} (hq2 : q2 < 27) {S2 : CS} (h2 : cp_expect T q2 S1 = (.inr v, S2)) : S.1 + 2 ≤ S2.1 ∧ Ok m S2 ∧ S2.2.1 = S.2.1 ∧ cz S2 + 2 * S.1 + 1 ≤ cz S + 2 * S2.1 ∧ PF S S2 ∧ cz S < e ∧ e + 1 = cz S2 ∧ S2.1 = S1.1 + 1 ∧ cz (cadd (adv S) 0 0 0) = cz S + 1 ∧ Cp (cadd (adv S) 0 0 0) ∧ Ok m (cadd (adv S) 0 0 0) := by
  have tm := t.1
  have hl := t.lt o.1 hk hq
  have ha := ge_adv t o hk hq
  have sc := step_cp (S := adv S) (S0 := S) rfl ha.2 c (by omega)
  have o2 : Ok m (cadd (adv S) 0 0 0) := ok_add ha.1.2.1 (by decide)
  have g := gs_cond t o2 sc.2 h
  have e2 := ge_expect t hq2 g.2.1 h2
  have zA : cz (adv S) < 300 := by show cz S < 300; unfold C2 at c; omega
  have P1 : PF S (cadd (adv S) 0 0 0) := PF.rf.adv.add zA
  have a1 : (cadd (adv S) 0 0 0).1 = S.1 + 1 := ha.2
  obtain ⟨g1, g2, g3, g4, g5, g6, g7, _⟩ := g
  have q2 := e2.1.2.2.2.1
  have q3 := e2.2.1
  have q4 := e2.1.2.2.2.2.1
  have q8 : cz S2 = cz S1 := by rw [e2.2.2.1]; rfl
  exact ⟨by omega, e2.1.2.1, by rw [e2.1.2.2.1, g3]; rfl, by omega, (P1.tr g5).tr e2.1.2.2.2.2, by omega, by omega, q3, sc.1, sc.2, o2⟩
theorem gs_if {T : Tk} {m : Nat} (t : TkOk T m) {s : CS → CR} (hs : GSx m s (fun _ => True)) : GSx m (fun S => cp_if T s (adv S)) (fun S => kd T S.1 = 4) := by
  intro S S1 v o c hk h
  have tm := t.1
  obtain ⟨e, S2, h1, h2⟩ := bd_inv h
  obtain ⟨w3, S3, h3, h4⟩ := bd_inv h2
  obtain ⟨w4, S4, h5, h6⟩ := bd_inv h4
  obtain ⟨g1, g2, g3, g4, g5, g6, g7, g8, g9, _, _⟩ := gs_head t o c hk (by decide) h1 (by decide) h3
  have gS3 : GS m S S3 := ⟨by omega, g2, g3, by omega, g5⟩
  have k4 := hs S3 S4 w4 g2 (gS3.c2 c) trivial h5
  have gS4 := gS3.tr k4
  split at h6
  · rename_i h6k
    have ha := ge_adv t k4.2.1 h6k (by decide)
    have hl := t.lt k4.2.1.1 h6k (by decide)
    have c4 := gS4.c2 c
    have zA : cz (adv S4) < 300 := by show cz S4 < 300; unfold C2 at c4; omega
    have z1 := cz_add (x := 16) (f := 0) (t := 0) zA
    have zz : cz (adv S4) = cz S4 := rfl
    have q4 := gS4.2.2.2.1
    have gS5 : GS m S (cadd (adv S4) 16 0 0) := ⟨by show S.1 ≤ (adv S4).1; have := gS4.1; omega, ok_add ha.1.2.1 (by decide), gS4.2.2.1, by rw [z1]; show cz (adv S4) + 1 + 2 * S.1 ≤ cz S + 2 * (adv S4).1; omega, gS4.2.2.2.2.adv.add zA⟩
    obtain ⟨w7, S7, h7, h8⟩ := bd_inv h6
    have gS6 : GS m S (cjmp (cadd (adv S4) 16 0 0) e) := gs_jmp gS5 (by omega)
    have k7 := hs _ S7 w7 gS6.2.1 (gS6.c2 c) trivial h7
    cases h8
    exact gs_jmp (gS6.tr k7) (by show cz S ≤ cz (adv S4); have := gS4.2.2.2.2.1; omega)
  · cases h6
    exact gs_jmp gS4 (by omega)
theorem gs_while {T : Tk} {m : Nat} (t : TkOk T m) {s : CS → CR} (hs : GSx m s (fun _ => True)) : GSx m (fun S => cp_while T s (adv S)) (fun S => kd T S.1 = 7) := by
  intro S S1 v o c hk h
  have tm := t.1
  obtain ⟨e, S2, h1, h2⟩ := bd_inv h
  obtain ⟨w3, S3, h3, h4⟩ := bd_inv h2
  obtain ⟨w4, S4, h5, h6⟩ := bd_inv h4
  obtain ⟨g1, g2, g3, g4, g5, g6, g7, g8, g9, _, _⟩ := gs_head t o c hk (by decide) h1 (by decide) h3
  have gS3 : GS m S S3 := ⟨by omega, g2, g3, by omega, g5⟩
  have k4 := hs S3 S4 w4 g2 (gS3.c2 c) trivial h5
  have gS4 := gS3.tr k4
  have q4 := k4.2.2.2.1
  have q5 := k4.2.1.1
  have q1 := k4.1
  have z4 : cz S4 < 300 := by unfold C2 at c; omega
  have z5 := cz_add (x := 16) (f := (adv S).2.2.2.2.2.2.2.2.1) (t := 0) z4
  cases h6
  refine gs_jmp (S := cadd S4 16 (adv S).2.2.2.2.2.2.2.2.1 0) ⟨?_, ok_add k4.2.1 (by decide), gS4.2.2.1, ?_, gS4.2.2.2.2.add z4⟩ (by omega)
  · show S.1 ≤ S4.1; omega
  · rw [z5]; show cz S4 + 1 + 2 * S.1 ≤ cz S + 2 * S4.1; omega
theorem gs_adv {T : Tk} {m q : Nat} {S : CS} (t : TkOk T m) (o : Ok m S) (hk : kd T S.1 = q) (hq : q < 27) : GS m S (adv S) := by
  have h := ge_adv t o hk hq
  exact ⟨h.1.1, h.1.2.1, rfl, by have : cz (adv S) = cz S := rfl; omega, PF.rf⟩
theorem gs_rep {T : Tk} {m q : Nat} (t : TkOk T m) (hq : q < 27) {s : CS → CR} (hs : GSx m s (fun _ => True)) : ∀ n, GSx m (cp_rep T q s n) (fun _ => True) := by
  intro n
  induction n with
  | zero => intro S S1 v o c _ h; cases h; exact GS.rf o
  | succ n ih =>
    intro S S1 v o c _ h
    rw [cp_rep] at h
    split at h
    · rename_i hk
      have ha := gs_adv t o hk hq
      obtain ⟨w, S2, h1, h2⟩ := bd_inv h
      have k1 := hs _ S2 w ha.2.1 (ha.c2 c) trivial h1
      exact (ha.tr k1).tr (ih S2 S1 v k1.2.1 ((ha.tr k1).c2 c) trivial h2)
    · cases h; exact GS.rf o
theorem gs_expect {T : Tk} {m q v : Nat} {S S1 : CS} (t : TkOk T m) (hq : q < 27) (o : Ok m S) (h : cp_expect T q S = (.inr v, S1)) : GS m S S1 := by
  have e := ge_expect t hq o h
  exact ⟨e.1.1, e.1.2.1, e.1.2.2.1, by have := e.1.2.2.2.1; have := e.2.1; omega, e.1.2.2.2.2⟩
theorem gs_stmts {T : Tk} {m : Nat} (t : TkOk T m) {s : CS → CR} (hs : GSx m s (fun _ => True)) : GSx m (cp_stmts T s) (fun _ => True) := by
  intro S S1 v o c _ h
  obtain ⟨w, S2, h1, h2⟩ := bd_inv h
  have k1 := hs S S2 w o c trivial h1
  obtain ⟨w3, S3, h3, h4⟩ := bd_inv h2
  have k3 := gs_rep t (by decide) hs 150 S2 S3 w3 k1.2.1 (k1.c2 c) trivial h3
  exact (k1.tr k3).tr (gs_expect t (by decide) k3.2.1 h4)
theorem gs_st {T : Tk} {m : Nat} (t : TkOk T m) {x2 x4 x7 : CS → CR} (h2 : GSx m x2 (fun S => kd T S.1 = 2)) (h4 : GSx m x4 (fun S => kd T S.1 = 4)) (h7 : GSx m x7 (fun S => kd T S.1 = 7)) : GSx m (cp_st T x2 x4 x7) (fun _ => True) := by
  intro S S1 v o c _ h
  unfold cp_st at h
  split at h
  · split at h
    · exact gs_assign t S S1 v o c (by assumption) h
    · exact gs_call t S S1 v o c (by assumption) h
  · split at h
    · exact h2 S S1 v o c (by assumption) h
    · split at h
      · exact h4 S S1 v o c (by assumption) h
      · split at h
        · exact h7 S S1 v o c (by assumption) h
        · split at h
          · exact gs_write t S S1 v o c (by assumption) h
          · cases h; exact GS.rf o
theorem gs_stm {T : Tk} {m : Nat} (t : TkOk T m) : ∀ n, GSx m (cp_stm T n) (fun _ => True) := by
  intro n
  induction n with
  | zero => exact gs_st t (fun S S1 v _ _ _ h => by cases h) (fun S S1 v _ _ _ h => by cases h) (fun S S1 v _ _ _ h => by cases h)
  | succ n ih =>
    refine gs_st t (fun S S1 v o c hk h => ?_) (gs_if t ih) (gs_while t ih)
    have ha := gs_adv t o hk (by decide)
    exact ha.tr (gs_stmts t ih _ _ _ ha.2.1 (ha.c2 c) trivial h)
