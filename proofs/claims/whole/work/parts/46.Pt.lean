/-! ===== where statements go on; statements read alike ===== -/
def nxr (T : Tk) (s : CS → CR) (g : CS → Prop) : Nat → CS → Prop
  | 0, _ => True
  | k + 1, S => kd T S.1 = 11 → g (adv S) ∧ ∀ v S1, s (adv S) = (.inr v, S1) → nxr T s g k S1
def nxl (T : Tk) (s : CS → CR) (g : CS → Prop) (S : CS) : Prop := g S ∧ ∀ v S1, s S = (.inr v, S1) → nxr T s g 150 S1
def nxi (T : Tk) (ν : Nat → Nat) (s : CS → CR) (g : CS → Prop) (S : CS) : Prop := ∀ e S1 v S2, cp_cond T (cadd (adv S) 0 0 0) = (.inr e, S1) → cp_expect T 5 S1 = (.inr v, S2) → g S2 ∧ ∀ v3 S3, s S2 = (.inr v3, S3) → ν S.1 = S3.1 ∧ (kd T S3.1 = 6 → g (cjmp (cadd (adv S3) 16 0 0) e) ∧ ∀ v5 S5, s (cjmp (cadd (adv S3) 16 0 0) e) = (.inr v5, S5) → ν S3.1 = S5.1)
def nxw (T : Tk) (ν : Nat → Nat) (s : CS → CR) (g : CS → Prop) (S : CS) : Prop := ∀ e S1 v S2, cp_cond T (cadd (adv S) 0 0 0) = (.inr e, S1) → cp_expect T 8 S1 = (.inr v, S2) → g S2 ∧ ∀ v3 S3, s S2 = (.inr v3, S3) → ν S.1 = S3.1
/-- where the statement that the class reads from S on has its ends -/
def nxs (T : Tk) (ν : Nat → Nat) : Nat → CS → Prop
  | 0, _ => True
  | n + 1, S => (kd T S.1 = 2 → nxl T (cp_stm T n) (nxs T ν n) (adv S)) ∧ (kd T S.1 = 4 → nxi T ν (cp_stm T n) (nxs T ν n) S) ∧ (kd T S.1 = 7 → nxw T ν (cp_stm T n) (nxs T ν n) S)
/-- a statement, or what is left of one, read alike -/
def SO (T : Tk) (m : Nat) (N : Nm) (σ : Nat → Nat) (X : MS) (S : CS) (μ ν wi si : Nat → Nat) (de : Nat) (R : CR) (P : MS → MS → Prop) (de' : Nat) (L : Nat → Prop) (G : (Nat → Nat) → Prop) : Prop :=
  match R with
  | (.inl q, _) => ∃ t a μ' ν' wi' si' d', t ≤ m ∧ T.2.1 t = q ∧ P (QX X S.1 none μ ν wi si de) (QX X a (some t) μ' ν' wi' si' d')
  | (.inr _, S1) => ∃ μ' ν' wi' si', MM T N σ S.1 S1.1 μ μ' ∧ (∀ t, (¬ L t ∧ t < S.1) ∨ S1.1 ≤ t → ν' t = ν t) ∧ (∀ j, j < de' → wi' j = wi j ∧ si' j = si j) ∧ (∀ νf : Nat → Nat, (∀ t, L t ∨ (S.1 ≤ t ∧ t < S1.1) → νf t = ν' t) → G νf) ∧ ∀ X', sB (QX X S1.1 none μ' ν' wi' si' de') X' → P (QX X S.1 none μ ν wi si de) X'
section PT
variable {T : Tk} {m : Nat} {N : Nm} {σ bl : Nat → Nat} {X : MS}
theorem SO.ofXO {S S2 : CS} {μ μ0 ν wi si : Nat → Nat} {de a0 : Nat} {w0 : Option Nat} {R : CR} {P1 : MS → MS → Prop} {E : CS → Prop} {G : (Nat → Nat) → Prop} (tm : m ≤ 150) (hd : de ≤ 8) (h : XO T m N σ (QX X a0 w0 μ ν wi si de) S2 μ0 R P1 (fun A B => B = A) E) (h12 : S.1 ≤ S2.1) (hm : MM T N σ S.1 S2.1 μ μ0) (hG : ∀ νf, G νf) (hs : ∀ B X', P1 (QX X S2.1 none μ0 ν wi si de) B → sB B X' → sH (QX X S.1 none μ ν wi si de) X') : SO T m N σ X S μ ν wi si de R sH de (fun _ => False) G := by
  rcases R with ⟨q | v, S1⟩
  · obtain ⟨t, a, μ', h1, h2, h3, h4⟩ := h
    exact ⟨t, a, μ', ν, wi, si, de, h1, h2, hs _ _ h4 (sB_w (X := QX X a (some t) μ' ν wi si de) rfl (by omega) (show de < 2147483648 by omega))⟩
  · obtain ⟨h1, h2, h3, h4, μ', h5, h6⟩ := h
    exact ⟨μ', ν, wi, si, hm.tr h12 h1 h5, fun _ _ => rfl, fun _ _ => ⟨rfl, rfl⟩, fun νf _ => hG νf, fun X' hX => hs _ _ (h6 _ rfl) hX⟩
theorem so_bad {S : CS} {μ ν wi si : Nat → Nat} {de t : Nat} {S' : CS} {L : Nat → Prop} {G : (Nat → Nat) → Prop} (tm : m ≤ 150) (ht : t ≤ m) (hd : de ≤ 8) (hb : mo_beginStatement (QX X S.1 none μ ν wi si de) true (QX X S.1 (some t) μ ν wi si de)) : SO T m N σ X S μ ν wi si de (.inl (T.2.1 t), S') sH de L G :=
  ⟨t, S.1, μ, ν, wi, si, de, ht, rfl, sH_t rfl hb (sB_w (X := QX X S.1 (some t) μ ν wi si de) rfl (by omega) (show de < 2147483648 by omega))⟩
/-- the names and procedures that a statement may name -/
def ST (T : Tk) (m : Nat) (N : Nm) (σ bl : Nat → Nat) (X : MS) : Prop := TkOk T m ∧ TR T m X ∧ NR N σ bl X.2.2.1
def PA (C : Co) (N : Nm) (σ : Nat → Nat) (Y : MS2) : Prop := ∀ i, i < N.2.2.2.2.2.1 → N.2.1 i = 2 → PQ C (N.2.2.2.1 i) (σ i) Y
theorem PA.cong {C C' : Co} {Y : MS2} (h : PA C N σ Y) (e1 : C'.2.2.2.2.1 = C.2.2.2.2.1) (e2 : C'.2.2.2.2.2.1 = C.2.2.2.2.2.1) : PA C' N σ Y := fun i h1 h2 => (h i h1 h2).cong e1 e2
theorem find_q {S : CS} {μ ν wi si : Nat → Nat} {de : Nat} (h : ST T m N σ bl X) (o : Ok m S) (e : S.2.1 = N) (hk : kd T S.1 = 25) : mo_find S.1 (QX X S.1 none μ ν wi si de) ((nm_find N (T.2.2.1 S.1)).map σ) (QX X S.1 none μ ν wi si de) ∧ ∀ i, nm_find N (T.2.2.1 S.1) = some i → i < N.2.2.2.2.2.1 ∧ σ i < 18 ∧ r_sort X (σ i) < 2147483648 ∧ (r_sort X (σ i) = 3 ↔ N.2.1 i = 2) := by
  obtain ⟨t, hT, hN⟩ := h
  have tm := t.1
  have hlt := t.lt o.1 hk (by decide)
  have hw : r_word (QX X S.1 none μ ν wi si de) S.1 = T.2.2.1 S.1 := hT.2 S.1 hlt (Or.inl hk)
  have hf := find_ok (X := QX X S.1 none μ ν wi si de) (t := S.1) (e ▸ o.2.1) (show NR N σ bl (QX X S.1 none μ ν wi si de).2.2.1 from hN) (by omega)
  rw [hw] at hf
  refine ⟨hf, fun i hi => ?_⟩
  obtain ⟨i1, i2⟩ := nm_find_lt hi
  have k := hN.2.2.2.1 i i1
  have hsy := hN.1.2.2
  have oN : NmOk N := e ▸ o.2.1
  have := oN.2.1
  have := oN.2.2.1
  have := k.1
  refine ⟨i1, by omega, ?_, ?_⟩
  · show X.2.2.1.2.1 (σ i) < 2147483648
    rcases k.2.2.2.1 with q | q | q <;> omega
  · show X.2.2.1.2.1 (σ i) = 3 ↔ _
    rcases k.2.2.2.1 with q | q | q <;> omega
theorem mm_name {S : CS} {i : Nat} {μ : Nat → Nat} {a b : Nat} (hi : nm_find N (T.2.2.1 a) = some i) (hb : b = a + 1) : MM T N σ a b μ (va_up μ a (σ i)) := by
  subst hb
  refine ⟨fun q hq => ?_, fun q h1 h2 h3 => ?_⟩
  · unfold va_up; rw [if_neg (by omega)]
  · have : q = a := by omega
    subst this
    exact ⟨i, hi, va_same _ _ _⟩
theorem so_assign {S : CS} {μ ν wi si : Nat → Nat} {de : Nat} {G : (Nat → Nat) → Prop} (h : ST T m N σ bl X) (hd : de ≤ 8) (o : Ok m S) (c : C2 S) (e : S.2.1 = N) (hk : kd T S.1 = 25) (h10 : kd T (S.1 + 1) = 10) (hG : ∀ νf, G νf) : SO T m N σ X S μ ν wi si de (cp_assign T S) sH de (fun _ => False) G := by
  obtain ⟨hf, hi9⟩ := find_q (μ := μ) (ν := ν) (wi := wi) (si := si) (de := de) h o e hk
  obtain ⟨t, hT, hN⟩ := h
  have tm := t.1
  have hlt := t.lt o.1 hk (by decide)
  have hlt2 := t.lt (show S.1 + 1 ≤ m by omega) h10 (by decide)
  have k1 : r_kind X S.1 = 1 := hT.eq o.1 hk
  have k13 : r_kind X (S.1 + 1) = 13 := hT.eq (j := 10) (by omega) h10
  unfold cp_assign
  rw [e]
  rcases hi : nm_find N (T.2.2.1 S.1) with _ | i
  · rw [hi] at hf
    exact so_bad tm o.1 hd (bs_bad (by omega) k1 (by omega) hf (fun s hs => by cases hs))
  · rw [hi] at hf
    obtain ⟨i1, i18, il, i3⟩ := hi9 i hi
    dsimp only
    split
    · rename_i h2
      refine so_bad tm o.1 hd (bs_bad (by omega) k1 (by omega) hf ?_)
      intro s hs
      cases hs
      exact ⟨i18, il, ⟨fun _ => k13, fun _ => i3.mpr h2⟩⟩
    · rename_i h2
      have o2 : Ok m (cadd S 0 0 0) := ok_add o (by decide)
      have e1 : (adv (cadd S 0 0 0)).1 = S.1 + 1 := adv_1 (S := cadd S 0 0 0) t o2 hk (by decide)
      have o3 := ok_adv (S := cadd S 0 0 0) t o2 hk (by decide)
      have h10' : kd T (adv (cadd S 0 0 0)).1 = 10 := by rw [e1]; exact h10
      have e2 := adv_1 t o3 h10' (by decide)
      have o4 := ok_adv t o3 h10' (by decide)
      have ea : bd (cp_expect T 10) (fun _ => bd (cp_expr T 8) (fun _ S1 => (.inr 0, cadd S1 (if S1.2.1.2.1 i = 1 then 6 else 5) (S1.2.1.2.2.2.2.2.2.1 - S1.2.1.2.2.1 i) (S1.2.1.2.2.2.1 i)))) (adv (cadd S 0 0 0)) = bd (cp_expr T 8) (fun _ S1 => (.inr 0, cadd S1 (if S1.2.1.2.1 i = 1 then 6 else 5) (S1.2.1.2.2.2.2.2.2.1 - S1.2.1.2.2.1 i) (S1.2.1.2.2.2.1 i))) (adv (adv (cadd S 0 0 0))) := bd_ok (v := 0) (by unfold cp_expect; rw [if_pos h10'])
      rw [ea]
      have e3 : (adv (adv (cadd S 0 0 0))).1 = S.1 + 2 := by omega
      refine SO.ofXO (S2 := adv (adv (cadd S 0 0 0))) (μ0 := va_up μ S.1 (σ i)) (P1 := mo_expression) (E := fun _ => True) (a0 := S.1) (w0 := none) tm hd ?_ (by omega) ?_ hG ?_
      · refine XO.bd (Q := fun A B => B = A) (px_expression (X := QX X S.1 none μ ν wi si de) t hT hN o4 e) fun v S1 μ' _ a1 a2 a3 a4 => ?_
        exact ⟨Nat.le_refl _, ok_add a2 (by split <;> decide), a3, trivial, μ', MM.rf, fun _ h => h⟩
      · rw [e3]
        have := mm_name (S := S) (σ := σ) (μ := μ) hi rfl
        exact this.last (by omega) (by omega)
      · rw [e3]
        intro B X' hB hX
        exact sH_t rfl (bs_asg (by omega) k1 k13 hf i18 (fun q => h2 (i3.mp q)) il hB) hX
theorem so_call {S : CS} {μ ν wi si : Nat → Nat} {de : Nat} {G : (Nat → Nat) → Prop} (h : ST T m N σ bl X) (hP : PA S.2.2 N σ X.2.2.1) (hd : de ≤ 8) (o : Ok m S) (c : C2 S) (e : S.2.1 = N) (hk : kd T S.1 = 25) (h10 : ¬ kd T (S.1 + 1) = 10) (hG : ∀ νf, G νf) : SO T m N σ X S μ ν wi si de (cp_call T S) sH de (fun _ => False) G := by
  obtain ⟨hf, hi9⟩ := find_q (μ := μ) (ν := ν) (wi := wi) (si := si) (de := de) h o e hk
  obtain ⟨t, hT, hN⟩ := h
  have tm := t.1
  have hlt := t.lt o.1 hk (by decide)
  have k1 : r_kind X S.1 = 1 := hT.eq o.1 hk
  have k13 : ¬ r_kind X (S.1 + 1) = 13 := hT.ne t (j := 10) (by omega) (by decide) h10
  have kl := hT.lt t (show S.1 + 1 ≤ m by omega)
  unfold cp_call
  rw [e]
  rcases hi : nm_find N (T.2.2.1 S.1) with _ | i
  · rw [hi] at hf
    exact so_bad tm o.1 hd (bs_bad (by omega) k1 kl hf (fun s hs => by cases hs))
  · rw [hi] at hf
    obtain ⟨i1, i18, il, i3⟩ := hi9 i hi
    dsimp only
    split
    · rename_i h2
      have zA : cz S < 300 := by unfold C2 at c; omega
      have o2 : Ok m (cadd S 0 0 0) := ok_add o (by decide)
      have e1 : (adv (cadd S 0 0 0)).1 = S.1 + 1 := adv_1 (S := cadd S 0 0 0) t o2 hk (by decide)
      have o3 := ok_adv (S := cadd S 0 0 0) t o2 hk (by decide)
      have z1 : cz (adv (cadd S 0 0 0)) = cz S + 1 := cz_add zA
      have cc : Cp (adv (cadd S 0 0 0)) := by unfold Cp; unfold C2 at c; omega
      have pf : PF S (adv (cadd S 0 0 0)) := (PF.rf.add zA).adv
      have pq : PQ (adv (cadd S 0 0 0)).2.2 (N.2.2.2.1 i) (σ i) X.2.2.1 := (hP i i1 h2).cong pf.2.2.2.1 pf.2.2.2.2
      refine SO.ofXO (S2 := adv (cadd S 0 0 0)) (μ0 := va_up μ S.1 (σ i)) (P1 := mo_call S.1 (σ i)) (E := fun _ => True) (a0 := S.1) (w0 := none) tm hd (px_call (X := QX X S.1 none μ ν wi si de) t hT hN (i := i) (t0 := S.1) o.1 o3 (by omega) cc e pq) (by omega) ?_ hG ?_
      · rw [e1]
        exact mm_name (S := S) hi rfl
      · rw [e1]
        intro B X' hB hX
        exact sH_t rfl (bs_call (by omega) k1 k13 kl hf i18 (i3.mpr h2) hB) hX
    · rename_i h2
      refine so_bad tm o.1 hd (bs_bad (by omega) k1 kl hf ?_)
      intro s hs
      cases hs
      exact ⟨i18, il, ⟨fun q => absurd (i3.mp q) h2, fun q => absurd q k13⟩⟩
theorem so_write {S : CS} {μ ν wi si : Nat → Nat} {de : Nat} {G : (Nat → Nat) → Prop} (h : ST T m N σ bl X) (hd : de ≤ 8) (o : Ok m S) (e : S.2.1 = N) (hk : kd T S.1 = 9) (hG : ∀ νf, G νf) : SO T m N σ X S μ ν wi si de (cp_write T (adv S)) sH de (fun _ => False) G := by
  obtain ⟨t, hT, hN⟩ := h
  have tm := t.1
  have hlt := t.lt o.1 hk (by decide)
  have k12 : r_kind X S.1 = 12 := hT.eq o.1 hk
  have e1 := adv_1 t o hk (by decide)
  have o1 : Ok m (cadd (adv S) 0 0 0) := ok_add (ok_adv t o hk (by decide)) (by decide)
  have bad : ∀ (a q : Nat) (μ' : Nat → Nat) (X1 X2 X3 : MS) (S' : CS), q ≤ m → mo_need 40 (QX X (S.1 + 1) none μ ν wi si de) X1 → mo_expression X1 X2 → mo_need 41 X2 X3 → X3 = QX X a (some q) μ' ν wi si de → SO T m N σ X S μ ν wi si de (.inl (T.2.1 q), S') sH de (fun _ => False) G := by
    intro a q μ' X1 X2 X3 S' hq n1 n2 n3 e3
    subst e3
    exact ⟨q, a, μ', ν, wi, si, de, hq, rfl, sH_t rfl (bs_write (by omega) k12 n1 n2 n3) (sB_w (X := QX X a (some q) μ' ν wi si de) rfl (by omega) (show de < 2147483648 by omega))⟩
  have ec : cp_write T (adv S) = bd (cp_expect T 13) (fun _ => bd (cp_expr T 8) (fun _ => bd (cp_expect T 14) (fun _ S1 => (.inr 0, cadd S1 20 0 0)))) (cadd (adv S) 0 0 0) := rfl
  rw [ec]
  have c1 : (cadd (adv S) 0 0 0).1 = S.1 + 1 := e1
  by_cases h13 : kd T (cadd (adv S) 0 0 0).1 = 13
  · rw [bd_ok (v := 0) (S1 := adv (cadd (adv S) 0 0 0)) (by unfold cp_expect; rw [if_pos h13])]
    have e2 := adv_1 t o1 h13 (by decide)
    have o2 := ok_adv t o1 h13 (by decide)
    have k40 : r_kind X (S.1 + 1) = 40 := by rw [← c1]; exact hT.eq o1.1 h13
    have n1 : mo_need 40 (QX X (S.1 + 1) none μ ν wi si de) (QX X (S.1 + 2) none μ ν wi si de) := mo_need_y (X := QX X (S.1 + 1) none μ ν wi si de) rfl (show S.1 + 1 < 155 by omega) k40 (by decide)
    have ex := px_expression (X := QX X S.1 none μ ν wi si de) (μ := μ) t hT hN o2 e
    have e3 : (adv (cadd (adv S) 0 0 0)).1 = S.1 + 2 := by omega
    rcases hR : cp_expr T 8 (adv (cadd (adv S) 0 0 0)) with ⟨q | v, S3⟩
    · rw [bd_no hR]
      rw [hR] at ex
      obtain ⟨q', a, μ', x1, x2, x3, x4⟩ := ex
      rw [e3] at x4
      rw [← x2]
      exact bad a q' μ' _ _ _ S3 x1 n1 x4 (mo_need_w (X := QX X a (some q') μ' ν wi si de) rfl (by omega)) rfl
    · rw [bd_ok hR]
      rw [hR] at ex
      obtain ⟨x1, x2, x3, x4, μ', x5, x6⟩ := ex
      have x6 := x6 _ rfl
      rw [e3] at x1 x5 x6
      have x21 := x2.1
      by_cases h14 : kd T S3.1 = 14
      · rw [bd_ok (v := 0) (S1 := adv S3) (by unfold cp_expect; rw [if_pos h14])]
        have e4 := adv_1 t x2 h14 (by decide)
        have k41 : r_kind X S3.1 = 41 := hT.eq x2.1 h14
        refine ⟨μ', ν, wi, si, ?_, fun _ _ => rfl, fun _ _ => ⟨rfl, rfl⟩, fun νf _ => hG νf, ?_⟩
        · show MM T N σ S.1 (adv S3).1 μ μ'
          rw [e4]
          have q := x5.last x1 (show ¬ kd T S3.1 = 25 by omega)
          have q2 : MM T N σ (S.1 + 1) (S3.1 + 1) μ μ' := q.skip (by rw [← c1]; omega)
          exact q2.skip (by omega)
        · show ∀ X', sB (QX X (adv S3).1 none μ' ν wi si de) X' → _
          rw [e4]
          intro X' hX
          exact sH_t rfl (bs_write (by omega) k12 n1 x6 (mo_need_y (X := QX X S3.1 none μ' ν wi si de) rfl (show S3.1 < 155 by omega) k41 (by decide))) hX
      · rw [bd_no (q := T.2.1 S3.1) (S1 := S3) (by unfold cp_expect; rw [if_neg h14]; rfl)]
        exact bad S3.1 S3.1 μ' _ _ _ S3 x2.1 n1 x6 (mo_need_n (X := QX X S3.1 none μ' ν wi si de) rfl (show S3.1 < 155 by omega) (hT.ne t (j := 14) x2.1 (by decide) h14) (hT.lt t x2.1) (by decide)) rfl
  · rw [bd_no (q := T.2.1 (S.1 + 1)) (S1 := cadd (adv S) 0 0 0) (by unfold cp_expect; rw [if_neg h13, ← c1]; rfl)]
    have hm1 : S.1 + 1 ≤ m := by rw [← c1]; exact o1.1
    have n40 : ¬ r_kind X (S.1 + 1) = 40 := hT.ne t (j := 13) hm1 (by decide) (by rw [← c1]; exact h13)
    have h9 : S.1 + 1 < 2147483648 := by omega
    exact bad (S.1 + 1) (S.1 + 1) μ _ _ _ _ hm1 (mo_need_n (X := QX X (S.1 + 1) none μ ν wi si de) rfl (show S.1 + 1 < 155 by omega) n40 (hT.lt t hm1) (by decide)) (xE_w (X := QX X (S.1 + 1) none μ ν wi si de) h9 (by decide)) (mo_need_w (X := QX X (S.1 + 1) (some (S.1 + 1)) μ ν wi si de) rfl h9) rfl
theorem so_empty {S : CS} {μ ν wi si : Nat → Nat} {de v : Nat} {G : (Nat → Nat) → Prop} (h : ST T m N σ bl X) (o : Ok m S) (h1 : ¬ kd T S.1 = 25) (h12 : ¬ kd T S.1 = 9) (h5 : ¬ kd T S.1 = 2) (h7 : ¬ kd T S.1 = 4) (h10 : ¬ kd T S.1 = 7) (hG : ∀ νf, G νf) : SO T m N σ X S μ ν wi si de (.inr v, S) sH de (fun _ => False) G := by
  obtain ⟨t, hT, hN⟩ := h
  have tm := t.1
  have o1 := o.1
  refine ⟨μ, ν, wi, si, MM.rf, fun _ _ => rfl, fun _ _ => ⟨rfl, rfl⟩, fun νf _ => hG νf, fun X' hX => ?_⟩
  exact sH_t rfl (bs_empty (by omega) (hT.lt t o.1) (hT.ne t (j := 25) o.1 (by decide) h1) (hT.ne t (j := 9) o.1 (by decide) h12) (hT.ne t (j := 2) o.1 (by decide) h5) (hT.ne t (j := 4) o.1 (by decide) h7) (hT.ne t (j := 7) o.1 (by decide) h10)) hX
end PT
