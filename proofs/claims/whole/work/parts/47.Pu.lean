/-! ===== begin, if, while: class and model ===== -/
section PU
variable {T : Tk} {m : Nat} {N : Nm} {σ bl : Nat → Nat} {X : MS}
def STM (T : Tk) (m : Nat) (N : Nm) (σ : Nat → Nat) (X : MS) (n : Nat) : Prop := ∀ S μ ν wi si de, de + n = 8 → Ok m S → C2 S → S.2.1 = N → PA S.2.2 N σ X.2.2.1 → SO T m N σ X S μ ν wi si de (cp_stm T n S) sH de (fun _ => False) (fun νf => nxs T νf n S)
theorem so_tend (h : ST T m N σ bl X) {d t0 : Nat} (hd : d < 8) {S : CS} {μ ν wi si : Nat → Nat} {G : (Nat → Nat) → Prop} (o : Ok m S) (h11 : ¬ kd T S.1 = 11) (h5 : wi d = 5) (h0 : si d = t0) (ht : t0 < S.1) (hG : ∀ νf, G νf) : SO T m N σ X S μ ν wi si (d + 1) (cp_expect T 3 S) sB d (fun t => t = t0) G := by
  obtain ⟨t, hT, hN⟩ := h
  have tm := t.1
  have o1 := o.1
  unfold cp_expect
  by_cases h3 : kd T S.1 = 3
  · rw [if_pos h3]
    have e1 := adv_1 t o h3 (by decide)
    refine ⟨μ, va_up ν t0 (S.1 + 1), wi, si, ?_, ?_, fun _ _ => ⟨rfl, rfl⟩, fun νf _ => hG νf, ?_⟩
    · rw [e1]; exact MM.rf.skip (by omega)
    · rw [e1]
      intro q hq
      unfold va_up
      rw [if_neg (by omega)]
    · rw [e1]
      intro X' hX
      exact sB_end (by omega) (by omega) h5 (by omega) (hT.eq o.1 h3) (by rw [h0]; exact hX)
  · rw [if_neg h3]
    refine ⟨S.1, S.1, μ, va_up ν t0 S.1, wi, si, d, o.1, rfl, ?_⟩
    have := sB_noend (X := X) (a := S.1) (d := d) (μ := μ) (ν := ν) (wi := wi) (si := si) (by omega) (by omega) h5 (by omega) (hT.ne t (j := 11) o.1 (by decide) h11) (hT.ne t (j := 3) o.1 (by decide) h3) (hT.lt t o.1)
    rw [h0] at this
    exact this
theorem so_tail (h : ST T m N σ bl X) {n d : Nat} (hs : STM T m N σ X n) (hd : d + 1 + n = 8) : ∀ k S μ ν wi si t0, m ≤ S.1 + k → Ok m S → C2 S → S.2.1 = N → PA S.2.2 N σ X.2.2.1 → wi d = 5 → si d = t0 → t0 < S.1 → SO T m N σ X S μ ν wi si (d + 1) (bd (cp_rep T 11 (cp_stm T n) k) (fun _ => cp_expect T 3) S) sB d (fun t => t = t0) (fun νf => nxr T (cp_stm T n) (nxs T νf n) k S) := by
  have t := h.1
  have hT := h.2.1
  have tm := t.1
  intro k
  induction k with
  | zero =>
    intro S μ ν wi si t0 hm o c e hP h5 h0 ht
    rw [bd_rep_0]
    have o1 := o.1
    have hS : S.1 = m := by omega
    exact so_tend h (by omega) o (by rw [hS]; rcases t.2.2 with q | q <;> omega) h5 h0 ht (fun _ => trivial)
  | succ k ih =>
    intro S μ ν wi si t0 hm o c e hP h5 h0 ht
    have o1 := o.1
    by_cases h11 : kd T S.1 = 11
    · rw [bd_rep_t h11]
      have e1 := adv_1 t o h11 (by decide)
      have ga := gs_adv t o h11 (by decide)
      have k59 : r_kind X S.1 = 59 := hT.eq o.1 h11
      have r := hs (adv S) μ ν wi si (d + 1) hd ga.2.1 (ga.c2 c) e hP
      rcases hR : cp_stm T n (adv S) with ⟨q | v, S1⟩
      · rw [bd_no hR]
        rw [hR] at r
        obtain ⟨q', a, μ', ν', wi', si', d', x1, x2, x3⟩ := r
        rw [e1] at x3
        exact ⟨q', a, μ', ν', wi', si', d', x1, x2, sB_semi (by omega) (by omega) h5 k59 x3⟩
      · rw [bd_ok hR]
        rw [hR] at r
        obtain ⟨μ1, ν1, wi1, si1, x1, x2, x3, x4, x5⟩ := r
        have g := gs_stm t n (adv S) S1 v ga.2.1 (ga.c2 c) trivial hR
        have g1 := g.1
        have P1 : PA S1.2.2 N σ X.2.2.1 := hP.cong g.2.2.2.2.2.2.2.1 g.2.2.2.2.2.2.2.2
        have f := x3 d (by omega)
        have r2 := ih S1 μ1 ν1 wi1 si1 t0 (by omega) g.2.1 (g.c2 (ga.c2 c)) (g.2.2.1.trans e) P1 (f.1.trans h5) (f.2.trans h0) (by omega)
        rcases hR2 : bd (cp_rep T 11 (cp_stm T n) k) (fun _ => cp_expect T 3) S1 with ⟨q | v2, S2⟩
        · rw [hR2] at r2
          obtain ⟨q', a, μ', ν', wi', si', d', y1, y2, y3⟩ := r2
          have z := x5 _ y3
          rw [e1] at z
          exact ⟨q', a, μ', ν', wi', si', d', y1, y2, sB_semi (by omega) (by omega) h5 k59 z⟩
        · rw [hR2] at r2
          obtain ⟨μ2, ν2, wi2, si2, y1, y2, y3, y4, y5⟩ := r2
          have g2 : S1.1 ≤ S2.1 := by
            obtain ⟨w3, S3, i1, i2⟩ := bd_inv hR2
            have k1 := gs_rep t (by decide) (gs_stm t n) k S1 S3 w3 g.2.1 (g.c2 (ga.c2 c)) trivial i1
            have k2 := gs_expect t (by decide) k1.2.1 i2
            have := k1.1; have := k2.1; omega
          rw [e1] at x1 x2 x4 g1
          refine ⟨μ2, ν2, wi2, si2, (x1.tr g1 g2 y1).skip (by omega), ?_, ?_, ?_, ?_⟩
          · intro q hq
            rw [y2 q (by omega), x2 q (by simp only [not_false_eq_true, true_and]; omega)]
          · intro j hj
            have a1 := x3 j (by omega)
            have a2 := y3 j hj
            exact ⟨a2.1.trans a1.1, a2.2.trans a1.2⟩
          · intro νf hf
            show kd T S.1 = 11 → _
            intro _
            refine ⟨x4 νf fun q hq => ?_, fun v' S1' h' => ?_⟩
            · have hq : S.1 + 1 ≤ q ∧ q < S1.1 := by rcases hq with hq | hq; exact absurd hq id; exact hq
              rw [hf q (Or.inr (by omega)), y2 q (Or.inl (by omega))]
            · rw [hR] at h'
              cases h'
              exact y4 νf fun q hq => hf q (by omega)
          · intro X' hX
            have z := x5 _ (y5 _ hX)
            rw [e1] at z
            exact sB_semi (by omega) (by omega) h5 k59 z
    · rw [bd_rep_f h11]
      exact so_tend h (by omega) o h11 h5 h0 ht (fun _ hk => absurd hk h11)
theorem so_begin (h : ST T m N σ bl X) {n d : Nat} (hs : STM T m N σ X n) (hd : d + 1 + n = 8) {S : CS} {μ ν wi si : Nat → Nat} (o : Ok m S) (c : C2 S) (e : S.2.1 = N) (hP : PA S.2.2 N σ X.2.2.1) (hk : kd T S.1 = 2) : SO T m N σ X S μ ν wi si d (cp_stmts T (cp_stm T n) (adv S)) sH d (fun _ => False) (fun νf => nxl T (cp_stm T n) (nxs T νf n) (adv S)) := by
  have t := h.1
  have hT := h.2.1
  have tm := t.1
  have o1 := o.1
  have e1 := adv_1 t o hk (by decide)
  have ga := gs_adv t o hk (by decide)
  have k5 : r_kind X S.1 = 5 := hT.eq o.1 hk
  have r := hs (adv S) μ ν (va_up wi d 5) (va_up si d S.1) (d + 1) hd ga.2.1 (ga.c2 c) e hP
  have bg := fun X' => sH_f (X := QX X S.1 none μ ν wi si d) (X' := X') rfl (bs_begin (d := d) (by omega) k5 (by omega))
  have ec : cp_stmts T (cp_stm T n) (adv S) = bd (cp_stm T n) (fun _ => bd (cp_rep T 11 (cp_stm T n) 150) (fun _ => cp_expect T 3)) (adv S) := rfl
  rw [ec]
  rcases hR : cp_stm T n (adv S) with ⟨q | v, S1⟩
  · rw [bd_no hR]
    rw [hR] at r
    obtain ⟨q', a, μ', ν', wi', si', d', x1, x2, x3⟩ := r
    rw [e1] at x3
    exact ⟨q', a, μ', ν', wi', si', d', x1, x2, bg _ x3⟩
  · rw [bd_ok hR]
    rw [hR] at r
    obtain ⟨μ1, ν1, wi1, si1, x1, x2, x3, x4, x5⟩ := r
    have g := gs_stm t n (adv S) S1 v ga.2.1 (ga.c2 c) trivial hR
    have g1 := g.1
    have P1 : PA S1.2.2 N σ X.2.2.1 := hP.cong g.2.2.2.2.2.2.2.1 g.2.2.2.2.2.2.2.2
    have f := x3 d (by omega)
    have r2 := so_tail h hs hd 150 S1 μ1 ν1 wi1 si1 S.1 (by omega) g.2.1 (g.c2 (ga.c2 c)) (g.2.2.1.trans e) P1 (f.1.trans (va_same _ _ _)) (f.2.trans (va_same _ _ _)) (by omega)
    rcases hR2 : bd (cp_rep T 11 (cp_stm T n) 150) (fun _ => cp_expect T 3) S1 with ⟨q | v2, S2⟩
    · rw [hR2] at r2
      obtain ⟨q', a, μ', ν', wi', si', d', y1, y2, y3⟩ := r2
      have z := x5 _ y3
      rw [e1] at z
      exact ⟨q', a, μ', ν', wi', si', d', y1, y2, bg _ z⟩
    · rw [hR2] at r2
      obtain ⟨μ2, ν2, wi2, si2, y1, y2, y3, y4, y5⟩ := r2
      have g2 : S1.1 ≤ S2.1 := by
        obtain ⟨w3, S3, i1, i2⟩ := bd_inv hR2
        have k1 := gs_rep t (by decide) (gs_stm t n) 150 S1 S3 w3 g.2.1 (g.c2 (ga.c2 c)) trivial i1
        have k2 := gs_expect t (by decide) k1.2.1 i2
        have := k1.1; have := k2.1; omega
      rw [e1] at x1 x2 x4 g1
      refine ⟨μ2, ν2, wi2, si2, (x1.tr g1 g2 y1).skip (by omega), ?_, ?_, ?_, ?_⟩
      · intro q hq
        simp only [not_false_eq_true, true_and] at hq
        rw [y2 q (by omega), x2 q (by simp only [not_false_eq_true, true_and]; omega)]
      · intro j hj
        have a1 := x3 j (by omega)
        have a2 := y3 j hj
        have u1 : va_up wi d 5 j = wi j := by unfold va_up; rw [if_neg (by omega)]
        have u2 : va_up si d S.1 j = si j := by unfold va_up; rw [if_neg (by omega)]
        exact ⟨a2.1.trans (a1.1.trans u1), a2.2.trans (a1.2.trans u2)⟩
      · intro νf hf
        refine ⟨x4 νf fun q hq => ?_, fun v' S1' h' => ?_⟩
        · have hq : S.1 + 1 ≤ q ∧ q < S1.1 := by rcases hq with hq | hq; exact absurd hq id; exact hq
          rw [hf q (Or.inr (by omega)), y2 q (Or.inl (by omega))]
        · rw [hR] at h'
          cases h'
          exact y4 νf fun q hq => hf q (Or.inr (by omega))
      · intro X' hX
        have z := x5 _ (y5 _ hX)
        rw [e1] at z
        exact bg _ z
/-- the head of an if or a while -/
theorem so_cond (h : ST T m N σ bl X) {d q5 k8 : Nat} (hq5 : q5 < 27) (hk8 : kap q5 = k8) {S : CS} {μ ν wi si : Nat → Nat} {q : Nat} (hd : d + 1 ≤ 8) (hq : q < 27) (hq25 : ¬ q = 25) (hq525 : ¬ q5 = 25) (o : Ok m S) (c : C2 S) (e : S.2.1 = N) (hk : kd T S.1 = q)
    (hb : ∀ X1 X2, mo_condition (QX X (S.1 + 1) none μ ν wi si (d + 1)) X1 → r_kind X1 = r_kind X → mo_need k8 X1 X2 → r_kind X2 = r_kind X → mo_beginStatement (QX X S.1 none μ ν wi si d) false X2 ∨ True) : ∀ f : Nat → CS → CR, (∃ q' a μ' X1, q' ≤ m ∧ mo_condition (QX X (S.1 + 1) none μ ν wi si (d + 1)) X1 ∧ r_kind X1 = r_kind X ∧ mo_need k8 X1 (QX X a (some q') μ' ν wi si (d + 1)) ∧ ∃ S', bd (cp_cond T) (fun e => bd (cp_expect T q5) (fun _ => f e)) (cadd (adv S) 0 0 0) = (.inl (T.2.1 q'), S')) ∨ ∃ e1 S1 v S2 μ' X1, cp_cond T (cadd (adv S) 0 0 0) = (.inr e1, S1) ∧ cp_expect T q5 S1 = (.inr v, S2) ∧ bd (cp_cond T) (fun e => bd (cp_expect T q5) (fun _ => f e)) (cadd (adv S) 0 0 0) = f e1 S2 ∧ MM T N σ S.1 S2.1 μ μ' ∧ mo_condition (QX X (S.1 + 1) none μ ν wi si (d + 1)) X1 ∧ r_kind X1 = r_kind X ∧ mo_need k8 X1 (QX X S2.1 none μ' ν wi si (d + 1)) := by
  intro f
  obtain ⟨t, hT, hN⟩ := h
  have tm := t.1
  have o1 := o.1
  have e1 := adv_1 t o hk hq
  have hlt := t.lt o.1 hk hq
  have o2 : Ok m (cadd (adv S) 0 0 0) := ok_add (ok_adv t o hk hq) (by decide)
  have x := px_cond (X := QX X S.1 none μ ν wi si (d + 1)) (μ := μ) (S := cadd (adv S) 0 0 0) t hT hN o2 e
  have c1 : (cadd (adv S) 0 0 0).1 = S.1 + 1 := e1
  have k8l : k8 < 2147483648 := by have := kap_lt9 q5 (by omega); omega
  rcases hR : cp_cond T (cadd (adv S) 0 0 0) with ⟨p | e1, S1⟩
  · rw [hR] at x
    obtain ⟨q', a, μ', x1, x2, x3, x4⟩ := x
    rw [c1] at x4
    left
    refine ⟨q', a, μ', QX X a (some q') μ' ν wi si (d + 1), x1, x4, rfl, mo_need_w (X := QX X a (some q') μ' ν wi si (d + 1)) rfl (by omega), S1, ?_⟩
    rw [bd_no hR, x2]
  · rw [hR] at x
    obtain ⟨x1, x2, x3, x4, μ', x5, x6⟩ := x
    have x6 := x6 _ rfl
    rw [c1] at x1 x5 x6
    have x21 := x2.1
    rw [bd_ok hR]
    have x5' : MM T N σ S.1 S1.1 μ μ' := x5.skip (by rw [hk]; exact hq25)
    by_cases h5 : kd T S1.1 = q5
    · right
      have e2 := adv_1 t x2 h5 hq5
      have hex : cp_expect T q5 S1 = (.inr 0, adv S1) := by unfold cp_expect; rw [if_pos h5]
      refine ⟨e1, S1, 0, adv S1, μ', QX X S1.1 none μ' ν wi si (d + 1), rfl, hex, by rw [bd_ok hex], ?_, x6, rfl, ?_⟩
      · rw [e2]
        exact x5'.last (by omega) (by rw [h5]; exact hq525)
      · rw [e2]
        exact mo_need_y (X := QX X S1.1 none μ' ν wi si (d + 1)) rfl (show S1.1 < 155 by omega) (show r_kind X S1.1 = k8 by rw [← hk8]; exact hT.eq x2.1 h5) k8l
    · left
      refine ⟨S1.1, S1.1, μ', QX X S1.1 none μ' ν wi si (d + 1), x2.1, x6, rfl, mo_need_n (X := QX X S1.1 none μ' ν wi si (d + 1)) rfl (show S1.1 < 155 by omega) (show ¬ r_kind X S1.1 = k8 by rw [← hk8]; exact hT.ne t (j := q5) x2.1 (by omega) h5) (hT.lt t x2.1) k8l, S1, ?_⟩
      rw [bd_no (q := T.2.1 S1.1) (S1 := S1) (by unfold cp_expect; rw [if_neg h5]; rfl)]
theorem so_while (h : ST T m N σ bl X) {n d : Nat} (hs : STM T m N σ X n) (hd : d + 1 + n = 8) {S : CS} {μ ν wi si : Nat → Nat} (o : Ok m S) (c : C2 S) (e : S.2.1 = N) (hP : PA S.2.2 N σ X.2.2.1) (hk : kd T S.1 = 7) : SO T m N σ X S μ ν wi si d (cp_while T (cp_stm T n) (adv S)) sH d (fun _ => False) (fun νf => nxw T νf (cp_stm T n) (nxs T νf n) S) := by
  have t := h.1
  have hT := h.2.1
  have tm := t.1
  have o1 := o.1
  have k10 : r_kind X S.1 = 10 := hT.eq o.1 hk
  have ec : cp_while T (cp_stm T n) (adv S) = bd (cp_cond T) (fun e => bd (cp_expect T 8) (fun _ => bd (cp_stm T n) (fun _ S1 => (.inr 0, cjmp (cadd S1 16 (adv S).2.2.2.2.2.2.2.2.1 0) e)))) (cadd (adv S) 0 0 0) := rfl
  rw [ec]
  rcases so_cond (μ := μ) (ν := ν) (wi := va_up wi d 10) (si := va_up si d S.1) (d := d) (q5 := 8) (k8 := 11) h (by decide) (by decide) (by omega) (by decide) (by decide) (by decide) o c e hk (fun _ _ _ _ _ _ => Or.inr trivial) (fun e => bd (cp_stm T n) (fun _ S1 => (.inr 0, cjmp (cadd S1 16 (adv S).2.2.2.2.2.2.2.2.1 0) e))) with ⟨q', a, μ', X1, y1, y2, y3, y4, S', y5⟩ | ⟨e1, S1, v, S2, μ', X1, y1, y2, y3, y4, y5, y6, y7⟩
  · rw [y5]
    refine ⟨q', a, μ', ν, va_up wi d 10, va_up si d S.1, d + 1, y1, rfl, ?_⟩
    exact sH_f rfl (bs_while (by omega) k10 (by omega) y2 y3 y4) (sH_w rfl (by omega))
  · rw [y3]
    have gh := gs_head t o c hk (by decide) y1 (by decide) y2
    obtain ⟨g1, g2, g3, g4, g5, g6, g7, g8, g9, _, _⟩ := gh
    have gS : GS m S S2 := ⟨by omega, g2, g3, by omega, g5⟩
    have r := hs S2 μ' ν (va_up wi d 10) (va_up si d S.1) (d + 1) hd g2 (gS.c2 c) (g3.trans e) (hP.cong g5.2.2.2.1 g5.2.2.2.2)
    have bg := fun X' => sH_f (X := QX X S.1 none μ ν wi si d) (X' := X') rfl (bs_while (by omega) k10 (by omega) y5 y6 y7)
    rcases hR : cp_stm T n S2 with ⟨q | v3, S3⟩
    · rw [bd_no hR]
      rw [hR] at r
      obtain ⟨q', a, μ', ν', wi', si', d', x1, x2, x3⟩ := r
      exact ⟨q', a, μ', ν', wi', si', d', x1, x2, bg _ x3⟩
    · rw [bd_ok hR]
      rw [hR] at r
      obtain ⟨μ1, ν1, wi1, si1, x1, x2, x3, x4, x5⟩ := r
      have gk := gs_stm t n S2 S3 v3 g2 (gS.c2 c) trivial hR
      have gk1 := gk.1
      have f := x3 d (by omega)
      have f1 : wi1 d = 10 := f.1.trans (va_same _ _ _)
      have f2 : si1 d = S.1 := f.2.trans (va_same _ _ _)
      refine ⟨μ1, va_up ν1 S.1 S3.1, wi1, si1, ?_, ?_, ?_, ?_, ?_⟩
      · exact y4.tr (by omega) gk1 x1
      · intro q hq
        have hq : q < S.1 ∨ S3.1 ≤ q := hq.imp (fun z => z.2) (fun z => z)
        show va_up ν1 S.1 S3.1 q = ν q
        unfold va_up
        rw [if_neg (by omega)]
        exact x2 q (by simp only [not_false_eq_true, true_and]; omega)
      · intro j hj
        have a1 := x3 j (by omega)
        have u1 : va_up wi d 10 j = wi j := by unfold va_up; rw [if_neg (by omega)]
        have u2 : va_up si d S.1 j = si j := by unfold va_up; rw [if_neg (by omega)]
        exact ⟨a1.1.trans u1, a1.2.trans u2⟩
      · intro νf hf
        have hf : ∀ q, S.1 ≤ q → q < S3.1 → νf q = va_up ν1 S.1 S3.1 q := fun q h1 h2 => hf q (Or.inr ⟨h1, h2⟩)
        intro e1' S1' v' S2' z1 z2
        rw [y1] at z1
        cases z1
        rw [y2] at z2
        cases z2
        refine ⟨x4 νf fun q hq => ?_, fun v3' S3' z3 => ?_⟩
        · have hq : S2.1 ≤ q ∧ q < S3.1 := by rcases hq with hq | hq; exact absurd hq id; exact hq
          rw [hf q (by omega) hq.2]
          unfold va_up
          rw [if_neg (by omega)]
        · rw [hR] at z3
          cases z3
          rw [hf S.1 (Nat.le_refl _) (by omega)]
          exact va_same _ _ _
      · intro X' hX
        refine bg _ (x5 _ (sB_other (by omega) (by omega) (by omega) (by omega) (by omega) ?_))
        rw [f2]
        exact hX
theorem so_if (h : ST T m N σ bl X) {n d : Nat} (hs : STM T m N σ X n) (hd : d + 1 + n = 8) {S : CS} {μ ν wi si : Nat → Nat} (o : Ok m S) (c : C2 S) (e : S.2.1 = N) (hP : PA S.2.2 N σ X.2.2.1) (hk : kd T S.1 = 4) : SO T m N σ X S μ ν wi si d (cp_if T (cp_stm T n) (adv S)) sH d (fun _ => False) (fun νf => nxi T νf (cp_stm T n) (nxs T νf n) S) := by
  have t := h.1
  have hT := h.2.1
  have tm := t.1
  have o1 := o.1
  have k7 : r_kind X S.1 = 7 := hT.eq o.1 hk
  have ec : cp_if T (cp_stm T n) (adv S) = bd (cp_cond T) (fun e => bd (cp_expect T 5) (fun _ => bd (cp_stm T n) (fun _ S1 => if kd T S1.1 = 6 then bd (cp_stm T n) (fun _ S2 => (.inr 0, cjmp S2 (adv S1).2.2.2.2.2.2.2.2.1)) (cjmp (cadd (adv S1) 16 0 0) e) else (.inr 0, cjmp S1 e)))) (cadd (adv S) 0 0 0) := rfl
  rw [ec]
  rcases so_cond (μ := μ) (ν := ν) (wi := va_up wi d 7) (si := va_up si d S.1) (d := d) (q5 := 5) (k8 := 8) h (by decide) (by decide) (by omega) (by decide) (by decide) (by decide) o c e hk (fun _ _ _ _ _ _ => Or.inr trivial) (fun e => bd (cp_stm T n) (fun _ S1 => if kd T S1.1 = 6 then bd (cp_stm T n) (fun _ S2 => (.inr 0, cjmp S2 (adv S1).2.2.2.2.2.2.2.2.1)) (cjmp (cadd (adv S1) 16 0 0) e) else (.inr 0, cjmp S1 e))) with ⟨q', a, μ', X1, y1, y2, y3, y4, S', y5⟩ | ⟨e1, S1, v, S2, μ', X1, y1, y2, y3, y4, y5, y6, y7⟩
  · rw [y5]
    refine ⟨q', a, μ', ν, va_up wi d 7, va_up si d S.1, d + 1, y1, rfl, ?_⟩
    exact sH_f rfl (bs_if (by omega) k7 (by omega) y2 y3 y4 rfl) (sH_w rfl (by omega))
  · rw [y3]
    have gh := gs_head t o c hk (by decide) y1 (by decide) y2
    obtain ⟨g1, g2, g3, g4, g5, g6, g7, g8, g9, _, _⟩ := gh
    have gS : GS m S S2 := ⟨by omega, g2, g3, by omega, g5⟩
    have r := hs S2 μ' ν (va_up wi d 7) (va_up si d S.1) (d + 1) hd g2 (gS.c2 c) (g3.trans e) (hP.cong g5.2.2.2.1 g5.2.2.2.2)
    have bg := fun X' => sH_f (X := QX X S.1 none μ ν wi si d) (X' := X') rfl (bs_if (by omega) k7 (by omega) y5 y6 y7 rfl)
    rcases hR : cp_stm T n S2 with ⟨q | v3, S3⟩
    · rw [bd_no hR]
      rw [hR] at r
      obtain ⟨q', a, μ', ν', wi', si', d', x1, x2, x3⟩ := r
      exact ⟨q', a, μ', ν', wi', si', d', x1, x2, bg _ x3⟩
    · rw [bd_ok hR]
      rw [hR] at r
      obtain ⟨μ1, ν1, wi1, si1, x1, x2, x3, x4, x5⟩ := r
      have gk := gs_stm t n S2 S3 v3 g2 (gS.c2 c) trivial hR
      have gk1 := gk.1
      have o3 := gk.2.1.1
      have f := x3 d (by omega)
      have f1 : wi1 d = 7 := f.1.trans (va_same _ _ _)
      have f2 : si1 d = S.1 := f.2.trans (va_same _ _ _)
      have stk : ∀ j, j < d → wi1 j = wi j ∧ si1 j = si j := by
        intro j hj
        have a1 := x3 j (by omega)
        have u1 : va_up wi d 7 j = wi j := by unfold va_up; rw [if_neg (by omega)]
        have u2 : va_up si d S.1 j = si j := by unfold va_up; rw [if_neg (by omega)]
        exact ⟨a1.1.trans u1, a1.2.trans u2⟩
      have loc1 : ∀ q, q < S2.1 ∨ S3.1 ≤ q → ν1 q = ν q := fun q hq => x2 q (by simp only [not_false_eq_true, true_and]; exact hq)
      have x4' : ∀ νf : Nat → Nat, (∀ q, S2.1 ≤ q → q < S3.1 → νf q = ν1 q) → nxs T νf n S2 := fun νf hf => x4 νf fun q hq => by
        rcases hq with hq | hq
        · exact absurd hq id
        · exact hf q hq.1 hq.2
      by_cases h6 : kd T S3.1 = 6
      · rw [if_pos h6]
        have e4 := adv_1 t gk.2.1 h6 (by decide)
        have hl := t.lt gk.2.1.1 h6 (by decide)
        have gS3 := gS.tr gk
        have c3 := gS3.c2 c
        have zA : cz (adv S3) < 300 := by show cz S3 < 300; unfold C2 at c3; omega
        have z1 := cz_add (x := 16) (f := 0) (t := 0) zA
        have zz : cz (adv S3) = cz S3 := rfl
        have q4 := gS3.2.2.2.1
        have gS4 : GS m S (cadd (adv S3) 16 0 0) := ⟨by show S.1 ≤ (adv S3).1; omega, ok_add (ok_adv t gk.2.1 h6 (by decide)) (by decide), gS3.2.2.1, by rw [z1]; show cz (adv S3) + 1 + 2 * S.1 ≤ cz S + 2 * (adv S3).1; omega, gS3.2.2.2.2.adv.add zA⟩
        have gS5 : GS m S (cjmp (cadd (adv S3) 16 0 0) e1) := gs_jmp gS4 (by omega)
        have e5 : (cjmp (cadd (adv S3) 16 0 0) e1).1 = S3.1 + 1 := e4
        have k9 : r_kind X S3.1 = 9 := hT.eq (j := 6) gk.2.1.1 h6
        have r2 := hs (cjmp (cadd (adv S3) 16 0 0) e1) μ1 (va_up ν1 S.1 S3.1) (va_up wi1 d 9) (va_up si1 d S3.1) (d + 1) hd gS5.2.1 (gS5.c2 c) (gS5.2.2.1.trans e) (hP.cong gS5.2.2.2.2.2.2.2.1 gS5.2.2.2.2.2.2.2.2)
        have bg2 : ∀ X', sH (QX X (S3.1 + 1) none μ1 (va_up ν1 S.1 S3.1) (va_up wi1 d 9) (va_up si1 d S3.1) (d + 1)) X' → sH (QX X S.1 none μ ν wi si d) X' := fun X' hX => bg _ (x5 _ (sB_else (by omega) (by omega) f1 (by omega) k9 (by rw [f2]; exact hX)))
        rcases hR2 : cp_stm T n (cjmp (cadd (adv S3) 16 0 0) e1) with ⟨q | v5, S5⟩
        · rw [bd_no hR2]
          rw [hR2] at r2
          obtain ⟨q', a, μ', ν', wi', si', d', x1, x2, x3⟩ := r2
          rw [e5] at x3
          exact ⟨q', a, μ', ν', wi', si', d', x1, x2, bg2 _ x3⟩
        · rw [bd_ok hR2]
          rw [hR2] at r2
          obtain ⟨μ2, ν2, wi2, si2, w1, w2, w3, w4, w5⟩ := r2
          rw [e5] at w1 w2 w4 w5
          have gk2 := gs_stm t n _ S5 v5 gS5.2.1 (gS5.c2 c) trivial hR2
          have gk21 := gk2.1
          have o5 := gk2.2.1.1
          rw [e5] at gk21
          have ff := w3 d (by omega)
          have ff1 : wi2 d = 9 := ff.1.trans (va_same _ _ _)
          have ff2 : si2 d = S3.1 := ff.2.trans (va_same _ _ _)
          have loc2 : ∀ q, q < S3.1 + 1 ∨ S5.1 ≤ q → ν2 q = va_up ν1 S.1 S3.1 q := fun q hq => w2 q (by simp only [not_false_eq_true, true_and]; exact hq)
          refine ⟨μ2, va_up ν2 S3.1 S5.1, wi2, si2, ?_, ?_, ?_, ?_, ?_⟩
          · exact (y4.tr (by omega) gk1 x1).tr (by omega) (show S3.1 ≤ S5.1 by omega) (w1.skip (by omega))
          · intro q hq
            have hq : q < S.1 ∨ S5.1 ≤ q := hq.imp (fun z => z.2) (fun z => z)
            show va_up ν2 S3.1 S5.1 q = ν q
            unfold va_up
            rw [if_neg (by omega), loc2 q (by omega)]
            unfold va_up
            rw [if_neg (by omega)]
            exact loc1 q (by omega)
          · intro j hj
            have a1 := w3 j (by omega)
            have u1 : va_up wi1 d 9 j = wi1 j := by unfold va_up; rw [if_neg (by omega)]
            have u2 : va_up si1 d S3.1 j = si1 j := by unfold va_up; rw [if_neg (by omega)]
            exact ⟨(a1.1.trans u1).trans (stk j hj).1, (a1.2.trans u2).trans (stk j hj).2⟩
          · intro νf hf
            have hf : ∀ q, S.1 ≤ q → q < S5.1 → νf q = va_up ν2 S3.1 S5.1 q := fun q h1 h2 => hf q (Or.inr ⟨h1, h2⟩)
            intro e1' S1' v' S2' z1 z2
            rw [y1] at z1
            cases z1
            rw [y2] at z2
            cases z2
            refine ⟨x4' νf fun q h1 h2 => ?_, fun v3' S3' z3 => ?_⟩
            · rw [hf q (by omega) (by omega)]
              unfold va_up
              rw [if_neg (by omega), loc2 q (by omega)]
              unfold va_up
              rw [if_neg (by omega)]
            · rw [hR] at z3
              cases z3
              refine ⟨?_, fun _ => ⟨w4 νf fun q hq => ?_, fun v5' S5' z5 => ?_⟩⟩
              · rw [hf S.1 (Nat.le_refl _) (by omega)]
                unfold va_up
                rw [if_neg (by omega), loc2 S.1 (by omega)]
                exact va_same _ _ _
              · have hq : S3.1 + 1 ≤ q ∧ q < S5.1 := by rcases hq with hq | hq; exact absurd hq id; exact hq
                rw [hf q (by omega) hq.2]
                unfold va_up
                rw [if_neg (by omega)]
              · rw [hR2] at z5
                cases z5
                rw [hf S3.1 (by omega) (by omega)]
                exact va_same _ _ _
          · intro X' hX
            refine bg2 _ (w5 _ (sB_other (by omega) (by omega) (by omega) (by omega) (by omega) ?_))
            rw [ff2]
            exact hX
      · rw [if_neg h6]
        refine ⟨μ1, va_up ν1 S.1 S3.1, wi1, si1, y4.tr (by omega) gk1 x1, ?_, stk, ?_, ?_⟩
        · intro q hq
          have hq : q < S.1 ∨ S3.1 ≤ q := hq.imp (fun z => z.2) (fun z => z)
          show va_up ν1 S.1 S3.1 q = ν q
          unfold va_up
          rw [if_neg (by omega)]
          exact loc1 q (by omega)
        · intro νf hf
          have hf : ∀ q, S.1 ≤ q → q < S3.1 → νf q = va_up ν1 S.1 S3.1 q := fun q h1 h2 => hf q (Or.inr ⟨h1, h2⟩)
          intro e1' S1' v' S2' z1 z2
          rw [y1] at z1
          cases z1
          rw [y2] at z2
          cases z2
          refine ⟨x4' νf fun q h1 h2 => ?_, fun v3' S3' z3 => ?_⟩
          · rw [hf q (by omega) h2]
            unfold va_up
            rw [if_neg (by omega)]
          · rw [hR] at z3
            cases z3
            refine ⟨?_, fun h => absurd h h6⟩
            rw [hf S.1 (Nat.le_refl _) (by omega)]
            exact va_same _ _ _
        · intro X' hX
          refine bg _ (x5 _ (sB_noelse (by omega) (by omega) f1 (by omega) (hT.ne t (j := 6) gk.2.1.1 (by decide) h6) (hT.lt t gk.2.1.1) ?_))
          rw [f2]
          exact hX
theorem so_stm (h : ST T m N σ bl X) : ∀ n, STM T m N σ X n := by
  have t := h.1
  have hT := h.2.1
  have tm := t.1
  intro n
  induction n with
  | zero =>
    intro S μ ν wi si de hd o c e hP
    have : de = 8 := by omega
    subst this
    have o1 := o.1
    show SO T m N σ X S μ ν wi si 8 (cp_st T (cp_no T) (cp_no T) (cp_no T) S) sH 8 (fun _ => False) (fun _ => True)
    unfold cp_st
    split
    · split
      · exact so_assign h (by omega) o c e (by assumption) (by assumption) (fun _ => trivial)
      · exact so_call h hP (by omega) o c e (by assumption) (by assumption) (fun _ => trivial)
    · split
      · exact so_bad tm o.1 (by omega) (bs_deep8 (by omega) (Or.inl (hT.eq (j := 2) o.1 (by assumption))))
      · split
        · exact so_bad tm o.1 (by omega) (bs_deep8 (by omega) (Or.inr (Or.inl (hT.eq (j := 4) o.1 (by assumption)))))
        · split
          · exact so_bad tm o.1 (by omega) (bs_deep8 (by omega) (Or.inr (Or.inr (hT.eq (j := 7) o.1 (by assumption)))))
          · split
            · exact so_write h (by omega) o e (by assumption) (fun _ => trivial)
            · exact so_empty h o (by assumption) (by assumption) (by assumption) (by assumption) (by assumption) (fun _ => trivial)
  | succ n ih =>
    intro S μ ν wi si de hd o c e hP
    have o1 := o.1
    have wk : ∀ R G, SO T m N σ X S μ ν wi si de R sH de (fun _ => False) G → (∀ νf, G νf → nxs T νf (n + 1) S) → SO T m N σ X S μ ν wi si de R sH de (fun _ => False) (fun νf => nxs T νf (n + 1) S) := by
      intro R G h k
      rcases R with ⟨q | v, S1⟩
      · exact h
      · obtain ⟨μ1, ν1, wi1, si1, x1, x2, x3, x4, x5⟩ := h
        exact ⟨μ1, ν1, wi1, si1, x1, x2, x3, fun νf hf => k _ (x4 νf hf), x5⟩
    show SO T m N σ X S μ ν wi si de (cp_st T (fun S => cp_stmts T (cp_stm T n) (adv S)) (fun S => cp_if T (cp_stm T n) (adv S)) (fun S => cp_while T (cp_stm T n) (adv S)) S) sH de (fun _ => False) (fun νf => nxs T νf (n + 1) S)
    unfold cp_st
    by_cases h25 : kd T S.1 = 25
    · rw [if_pos h25]
      have nx : ∀ νf, nxs T νf (n + 1) S := fun νf => ⟨fun q => by omega, fun q => by omega, fun q => by omega⟩
      split
      · exact so_assign h (by omega) o c e h25 (by assumption) nx
      · exact so_call h hP (by omega) o c e h25 (by assumption) nx
    · rw [if_neg h25]
      by_cases h2 : kd T S.1 = 2
      · rw [if_pos h2]
        exact wk _ _ (so_begin h ih (by omega) o c e hP h2) fun νf k => ⟨fun _ => k, fun q => by omega, fun q => by omega⟩
      · rw [if_neg h2]
        by_cases h4 : kd T S.1 = 4
        · rw [if_pos h4]
          exact wk _ _ (so_if h ih (by omega) o c e hP h4) fun νf k => ⟨fun q => by omega, fun _ => k, fun q => by omega⟩
        · rw [if_neg h4]
          by_cases h7 : kd T S.1 = 7
          · rw [if_pos h7]
            exact wk _ _ (so_while h ih (by omega) o c e hP h7) fun νf k => ⟨fun q => by omega, fun q => by omega, fun _ => k⟩
          · rw [if_neg h7]
            have nx : ∀ νf, nxs T νf (n + 1) S := fun νf => ⟨fun q => by omega, fun q => by omega, fun q => by omega⟩
            by_cases h9 : kd T S.1 = 9
            · rw [if_pos h9]
              exact so_write h (by omega) o e h9 nx
            · rw [if_neg h9]
              exact so_empty h o h25 h9 h2 h4 h7 nx
end PU
