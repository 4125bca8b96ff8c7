/-! ===== the class's compiler: what is written stays, and how much is written ===== -/
def cz (S : CS) : Nat := S.2.2.2.2.2.2.2.2.1
theorem cz_adv {S : CS} : cz (adv S) = cz S := rfl
theorem cz_add {S : CS} {x f t : Nat} (h : cz S < 300) : cz (cadd S x f t) = cz S + 1 := by
  show (co_add S.2.2 x f t).2.2.2.2.2.2.1 = _
  unfold co_add
  rw [if_neg (show ¬ 300 ≤ S.2.2.2.2.2.2.2.2.1 from Nat.not_le.mpr h)]
  rfl
theorem cz_jmp {S : CS} {k : Nat} : cz (cjmp S k) = cz S := by
  show (co_jump S.2.2 k).2.2.2.2.2.2.1 = _
  unfold co_jump
  split <;> rfl
theorem cz_adr {S : CS} {k : Nat} : cz (cadr S k) = cz S := by
  show (co_addr S.2.2 k).2.2.2.2.2.2.1 = _
  unfold co_addr
  split <;> rfl
theorem bd_inv {x : CS → CR} {f : Nat → CS → CR} {S S1 : CS} {v : Nat} (h : bd x f S = (.inr v, S1)) : ∃ w S', x S = (.inr w, S') ∧ f w S' = (.inr v, S1) := by
  rcases hx : x S with ⟨q | w, S'⟩
  · rw [bd_no hx] at h; cases h
  · rw [bd_ok hx] at h; exact ⟨w, S', rfl, h⟩
/-- what was written below stays -/
def PF (S S1 : CS) : Prop := cz S ≤ cz S1 ∧ (∀ i, i < cz S → S1.2.2.1 i = S.2.2.1 i ∧ S1.2.2.2.1 i = S.2.2.2.1 i ∧ S1.2.2.2.2.1 i = S.2.2.2.2.1 i) ∧ S1.2.2.2.2.2.1 = S.2.2.2.2.2.1 ∧ S1.2.2.2.2.2.2.1 = S.2.2.2.2.2.2.1 ∧ S1.2.2.2.2.2.2.2.1 = S.2.2.2.2.2.2.2.1
theorem PF.rf {S : CS} : PF S S := ⟨Nat.le_refl _, fun _ _ => ⟨rfl, rfl, rfl⟩, rfl, rfl, rfl⟩
theorem PF.tr {A B C : CS} (h : PF A B) (k : PF B C) : PF A C := by
  refine ⟨Nat.le_trans h.1 k.1, fun i hi => ?_, k.2.2.1.trans h.2.2.1, k.2.2.2.1.trans h.2.2.2.1, k.2.2.2.2.trans h.2.2.2.2⟩
  have h1 := h.2.1 i hi
  have h2 := k.2.1 i (Nat.lt_of_lt_of_le hi h.1)
  exact ⟨h2.1.trans h1.1, h2.2.1.trans h1.2.1, h2.2.2.trans h1.2.2⟩
theorem PF.adv {S0 S : CS} (h : PF S0 S) : PF S0 (adv S) := h
theorem PF.add {S0 S : CS} {x f t : Nat} (h : PF S0 S) (hz : cz S < 300) : PF S0 (cadd S x f t) := by
  have e : cadd S x f t = (S.1, S.2.1, (va_up S.2.2.1 (cz S) x, va_up S.2.2.2.1 (cz S) f, va_up S.2.2.2.2.1 (cz S) t, S.2.2.2.2.2.1, S.2.2.2.2.2.2.1, S.2.2.2.2.2.2.2.1, cz S + 1, S.2.2.2.2.2.2.2.2.2)) := by
    show (S.1, S.2.1, co_add S.2.2 x f t) = _
    unfold co_add
    rw [if_neg (show ¬ 300 ≤ S.2.2.2.2.2.2.2.2.1 from Nat.not_le.mpr hz)]
    rfl
  refine ⟨by rw [cz_add hz]; have := h.1; omega, fun i hi => ?_, ?_, ?_, ?_⟩
  · have h1 := h.2.1 i hi
    have hne : ¬ i = cz S := by have := h.1; omega
    rw [e]
    dsimp only [va_up]
    rw [if_neg hne, if_neg hne, if_neg hne]
    exact h1
  · rw [e]; exact h.2.2.1
  · rw [e]; exact h.2.2.2.1
  · rw [e]; exact h.2.2.2.2
theorem PF.jmp {S0 S : CS} {k : Nat} (h : PF S0 S) (hk : cz S0 ≤ k) : PF S0 (cjmp S k) := by
  have e : cjmp S k = (S.1, S.2.1, co_jump S.2.2 k) := rfl
  unfold co_jump at e
  split at e
  · rw [e]; exact h
  · refine ⟨by rw [cz_jmp]; exact h.1, fun i hi => ?_, by rw [e]; exact h.2.2.1, by rw [e]; exact h.2.2.2.1, by rw [e]; exact h.2.2.2.2⟩
    have h1 := h.2.1 i hi
    rw [e]
    dsimp only [va_up]
    rw [if_neg (show ¬ i = k by omega)]
    exact h1
theorem PF.adr {S0 S : CS} {k : Nat} (h : PF S0 S) (hk : cz S0 ≤ k) : PF S0 (cadr S k) := by
  have e : cadr S k = (S.1, S.2.1, co_addr S.2.2 k) := rfl
  unfold co_addr at e
  split at e
  · rw [e]; exact h
  · refine ⟨by rw [cz_adr]; exact h.1, fun i hi => ?_, by rw [e]; exact h.2.2.1, by rw [e]; exact h.2.2.2.1, by rw [e]; exact h.2.2.2.2⟩
    have h1 := h.2.1 i hi
    rw [e]
    dsimp only [va_up]
    rw [if_neg (show ¬ i = k by omega)]
    exact h1
/-- expressions: a token brings at most one instruction -/
def GE (m : Nat) (S S1 : CS) : Prop := S.1 ≤ S1.1 ∧ Ok m S1 ∧ S1.2.1 = S.2.1 ∧ cz S1 + S.1 ≤ cz S + S1.1 ∧ PF S S1
theorem GE.rf {m : Nat} {S : CS} (o : Ok m S) : GE m S S := ⟨Nat.le_refl _, o, rfl, Nat.le_refl _, PF.rf⟩
theorem GE.tr {m : Nat} {A B C : CS} (h : GE m A B) (k : GE m B C) : GE m A C := ⟨Nat.le_trans h.1 k.1, k.2.1, k.2.2.1.trans h.2.2.1, by have := h.2.2.2.1; have := k.2.2.2.1; omega, h.2.2.2.2.tr k.2.2.2.2⟩
/-- there is room for more -/
def Cp (S : CS) : Prop := cz S < 2 * S.1
theorem GE.cp {m : Nat} {S S1 : CS} (h : GE m S S1) (c : Cp S) : Cp S1 := by
  have := h.2.2.2.1; have := h.1; unfold Cp at *; omega
/-- what a reader of expressions keeps, where it goes on; E: what holds behind it -/
def GX (m : Nat) (x : CS → CR) (p : CS → Prop) : Prop := ∀ S S1 v, Ok m S → Cp S → p S → x S = (.inr v, S1) → GE m S S1 ∧ S.1 < S1.1 ∧ cz S < cz S1
theorem gx_no {T : Tk} {m : Nat} {p : CS → Prop} : GX m (cp_no T) p := fun S S1 v _ _ _ h => by cases h
theorem ge_adv {T : Tk} {m q : Nat} {S : CS} (t : TkOk T m) (o : Ok m S) (hk : kd T S.1 = q) (hq : q < 27) : GE m S (adv S) ∧ (adv S).1 = S.1 + 1 := by
  have h := adv_1 t o hk hq
  exact ⟨⟨by omega, ok_adv t o hk hq, rfl, by rw [cz_adv]; omega, PF.rf⟩, h⟩
theorem ge_expect {T : Tk} {m q v : Nat} {S S1 : CS} (t : TkOk T m) (hq : q < 27) (o : Ok m S) (h : cp_expect T q S = (.inr v, S1)) : GE m S S1 ∧ S1.1 = S.1 + 1 ∧ S1 = adv S ∧ kd T S.1 = q := by
  unfold cp_expect at h
  split at h
  · rename_i hk
    cases h
    have := ge_adv t o hk hq
    exact ⟨this.1, this.2, rfl, hk⟩
  · cases h
theorem gx_fact {T : Tk} {m : Nat} (t : TkOk T m) {x : CS → CR} (hx : GX m x (fun S => kd T S.1 = 13)) : GX m (cp_fact T x) (fun _ => True) := by
  intro S S1 v o c _ h
  have tm := t.1
  unfold cp_fact at h
  split at h
  · rename_i hk
    cases h
    have hl := t.lt o.1 hk (by decide)
    have hz : cz S < 300 := by unfold Cp at c; omega
    have ha := adv_1 (S := cadd S 1 (i32n (T.2.2.1 S.1).toInt32) 0) t (ok_add o (by decide)) hk (by decide)
    have ha : (adv (cadd S 1 (i32n (T.2.2.1 S.1).toInt32) 0)).1 = S.1 + 1 := ha
    have hz2 : cz (adv (cadd S 1 (i32n (T.2.2.1 S.1).toInt32) 0)) = cz S + 1 := cz_add hz
    exact ⟨⟨by omega, ok_adv t (ok_add o (by decide)) (S := cadd S 1 (i32n (T.2.2.1 S.1).toInt32) 0) hk (by decide), rfl, by omega, (PF.rf.add hz).adv⟩, by omega, by omega⟩
  · split at h
    · rename_i hk
      have hl := t.lt o.1 hk (by decide)
      have hz : cz S < 300 := by unfold Cp at c; omega
      unfold cp_var at h
      split at h
      · cases h
      · split at h
        · cases h
        · cases h
          have o2 : ∀ y u w, y ≤ 20 → (adv (cadd S y u w)).1 = S.1 + 1 ∧ cz (adv (cadd S y u w)) = cz S + 1 ∧ Ok m (adv (cadd S y u w)) ∧ PF S (adv (cadd S y u w)) := fun y u w hy =>
            ⟨adv_1 (S := cadd S y u w) t (ok_add o hy) hk (by decide), cz_add hz, ok_adv t (S := cadd S y u w) (ok_add o hy) hk (by decide), (PF.rf.add hz).adv⟩
          rename_i i _ _
          obtain ⟨e1, e2, e3, e4⟩ := o2 (if S.2.1.2.1 i = 1 then 3 else 2) (S.2.1.2.2.2.2.2.2.1 - S.2.1.2.2.1 i) (S.2.1.2.2.2.1 i) (by split <;> decide)
          exact ⟨⟨by rw [e1]; omega, e3, rfl, by rw [e1, e2]; omega, e4⟩, by rw [e1]; omega, by rw [e2]; omega⟩
    · split at h
      · exact hx S S1 v o c (by assumption) h
      · cases h
/-- a tail: nothing, or more -/
def GT (m : Nat) (x : CS → CR) : Prop := ∀ S S1 v, Ok m S → Cp S → x S = (.inr v, S1) → GE m S S1 ∧ (S1 = S ∨ (S.1 < S1.1 ∧ cz S < cz S1))
theorem ge_op {T : Tk} {m : Nat} (t : TkOk T m) {f : CS → CR} (hf : GX m f (fun _ => True)) {S S1 : CS} {q x w : Nat} (o : Ok m S) (c : Cp S) (hk : kd T S.1 = q) (hq : q < 27) (hx : x ≤ 20) (h : f (adv S) = (.inr w, S1)) : GE m S (cadd S1 x 0 0) ∧ S.1 < S1.1 ∧ cz S < cz (cadd S1 x 0 0) ∧ GE m (adv S) S1 ∧ cz (cadd S1 x 0 0) = cz S1 + 1 := by
  have tm := t.1
  have ha := ge_adv t o hk hq
  have hz : cz (adv S) = cz S := rfl
  have h1 := hf (adv S) S1 w ha.1.2.1 (ha.1.cp c) trivial h
  have a1 := h1.1.2.2.2.1
  have a2 := h1.1.2.1.1
  have h300 : cz S1 < 300 := by unfold Cp at c; omega
  have e := cz_add (x := x) (f := 0) (t := 0) h300
  have p : PF S (cadd S1 x 0 0) := (ha.1.2.2.2.2.tr h1.1.2.2.2.2).add h300
  exact ⟨⟨by have := h1.2.1; show S.1 ≤ S1.1; omega, ok_add h1.1.2.1 hx, h1.1.2.2.1, by rw [e]; show cz S1 + 1 + S.1 ≤ cz S + S1.1; omega, p⟩, by have := h1.2.1; omega, by rw [e]; have := h1.2.2; omega, h1.1, e⟩
theorem gt_tl {T : Tk} {m : Nat} (t : TkOk T m) {f : CS → CR} (hf : GX m f (fun _ => True)) : ∀ n, GT m (cp_tl T f n) := by
  intro n
  induction n with
  | zero => intro S S1 v o c h; cases h; exact ⟨GE.rf o, Or.inl rfl⟩
  | succ n ih =>
    intro S S1 v o c h
    unfold cp_tl at h
    split at h
    · cases h; exact ⟨GE.rf o, Or.inl rfl⟩
    · rename_i x hx
      obtain ⟨w, S2, h1, h2⟩ := bd_inv h
      have g := ge_op t hf o c rfl (mulop_lt hx).1 (mulop_lt hx).2 h1
      have r := ih _ _ _ g.1.2.1 (g.1.cp c) h2
      have r2 := r.1.1
      have r3 := r.1.2.2.2.2.1
      exact ⟨g.1.tr r.1, Or.inr ⟨by have := g.2.1; have : S2.1 ≤ S1.1 := r2; omega, by have := g.2.2.1; omega⟩⟩
theorem GX.tail {m : Nat} {x : CS → CR} {y : CS → CR} {p : CS → Prop} (hx : GX m x p) (hy : GT m y) : GX m (fun S => bd x (fun _ => y) S) p := by
  intro S S1 v o c hp h
  obtain ⟨w, S2, h1, h2⟩ := bd_inv h
  have g := hx S S2 w o c hp h1
  have r := hy S2 S1 v g.1.2.1 (g.1.cp c) h2
  exact ⟨g.1.tr r.1, by have := r.1.1; have := g.2.1; omega, by have := r.1.2.2.2.2.1; have := g.2.2; omega⟩
theorem gx_term {T : Tk} {m : Nat} (t : TkOk T m) {f : CS → CR} (hf : GX m f (fun _ => True)) : GX m (cp_term T f) (fun _ => True) := GX.tail hf (gt_tl t hf 150)
theorem gt_sl {T : Tk} {m : Nat} (t : TkOk T m) {f : CS → CR} (hf : GX m f (fun _ => True)) : ∀ n, GT m (cp_sl T f n) := by
  intro n
  induction n with
  | zero => intro S S1 v o c h; cases h; exact ⟨GE.rf o, Or.inl rfl⟩
  | succ n ih =>
    intro S S1 v o c h
    unfold cp_sl at h
    have go : ∀ q x, kd T S.1 = q → q < 27 → x ≤ 20 → bd f (fun _ S1 => cp_sl T f n (cadd S1 x 0 0)) (adv S) = (.inr v, S1) → GE m S S1 ∧ (S1 = S ∨ (S.1 < S1.1 ∧ cz S < cz S1)) := by
      intro q x hk hq hx h
      obtain ⟨w, S2, h1, h2⟩ := bd_inv h
      have g := ge_op t hf o c hk hq hx h1
      have r := ih _ _ _ g.1.2.1 (g.1.cp c) h2
      have r2 := r.1.1
      have r3 := r.1.2.2.2.2.1
      exact ⟨g.1.tr r.1, Or.inr ⟨by have := g.2.1; have : S2.1 ≤ S1.1 := r2; omega, by have := g.2.2.1; omega⟩⟩
    split at h
    · exact go 19 8 (by assumption) (by decide) (by decide) h
    · split at h
      · exact go 20 9 (by assumption) (by decide) (by decide) h
      · cases h; exact ⟨GE.rf o, Or.inl rfl⟩
theorem gx_ex {T : Tk} {m : Nat} (t : TkOk T m) {f : CS → CR} (hf : GX m f (fun _ => True)) : GX m (cp_ex T f) (fun _ => True) := by
  intro S S1 v o c _ h
  unfold cp_ex at h
  split at h
  · rename_i hk
    obtain ⟨w, S2, h1, h2⟩ := bd_inv h
    have g := ge_op (x := 7) t hf o c hk (by decide) (by decide) h1
    have r := gt_sl t hf 150 _ _ _ g.1.2.1 (g.1.cp c) h2
    have r2 := r.1.1
    have r3 := r.1.2.2.2.2.1
    exact ⟨g.1.tr r.1, by have := g.2.1; have : S2.1 ≤ S1.1 := r2; omega, by have := g.2.2.1; omega⟩
  · exact GX.tail hf (gt_sl t hf 150) S S1 v o c trivial h
theorem gx_brk {T : Tk} {m n : Nat} (t : TkOk T m) (hx : GX m (cp_expr T n) (fun _ => True)) : GX m (cp_brk T (n + 1)) (fun S => kd T S.1 = 13) := by
  intro S S1 v o c hk h
  have ha := ge_adv t o hk (by decide)
  obtain ⟨w, S2, h1, h2⟩ := bd_inv h
  have g := hx (adv S) S2 w ha.1.2.1 (ha.1.cp c) trivial h1
  have e := ge_expect t (by decide) g.1.2.1 h2
  have r : GE m S S1 := ha.1.tr (g.1.tr e.1)
  have := e.1.2.2.2.2.1
  have := g.2.1
  have := g.2.2
  have hz : cz (adv S) = cz S := rfl
  exact ⟨r, by omega, by omega⟩
theorem gx_expr {T : Tk} {m : Nat} (t : TkOk T m) : ∀ n, GX m (cp_expr T n) (fun _ => True) := by
  intro n
  induction n with
  | zero =>
    have : cp_expr T 0 = cp_ex T (cp_term T (cp_fact T (cp_no T))) := rfl
    rw [this]
    exact gx_ex t (gx_term t (gx_fact t gx_no))
  | succ n ih =>
    rw [cp_expr_eq]
    exact gx_ex t (gx_term t (gx_fact t (gx_brk t ih)))
/-- an expression that begins with a name: one token, one instruction -/
theorem gx_name {T : Tk} {m n v : Nat} (t : TkOk T m) {S S1 : CS} (o : Ok m S) (c : Cp S) (hk : kd T S.1 = 25) (h : cp_expr T n S = (.inr v, S1)) : S1.1 = S.1 + 1 ↔ cz S1 = cz S + 1 := by
  have tm := t.1
  rw [cp_expr_eq] at h
  have hb : GX m (cp_brk T n) (fun S => kd T S.1 = 13) := by
    cases n with
    | zero => exact gx_no
    | succ n => exact gx_brk t (gx_expr t n)
  have gf := gx_fact t hb
  have gt := gx_term t gf
  unfold cp_ex at h
  rw [if_neg (by omega)] at h
  obtain ⟨w, S2, h1, h2⟩ := bd_inv h
  obtain ⟨w3, S3, h3, h4⟩ := bd_inv h1
  have g3 := gf S S3 w3 o c trivial h3
  have hS3 : S3.1 = S.1 + 1 ∧ cz S3 = cz S + 1 := by
    have hl := t.lt o.1 hk (by decide)
    have hz : cz S < 300 := by unfold Cp at c; omega
    unfold cp_fact at h3
    rw [if_neg (by omega), if_pos hk] at h3
    unfold cp_var at h3
    split at h3
    · cases h3
    · split at h3
      · cases h3
      · cases h3
        exact ⟨adv_1 (S := cadd S _ _ _) t (ok_add o (by split <;> decide)) hk (by decide), cz_add hz⟩
  have g4 := gt_tl t gf 150 S3 S2 w g3.1.2.1 (g3.1.cp c) h4
  have g2 := gt_sl t gt 150 S2 S1 v g4.1.2.1 (g4.1.cp (g3.1.cp c)) h2
  have p4 := g4.1.2.2.2.2.1
  have p2 := g2.1.2.2.2.2.1
  have q4 := g4.1.1
  have q2 := g2.1.1
  rcases g4.2 with e4 | e4
  · rcases g2.2 with e2 | e2
    · rw [e2, e4]; omega
    · rw [e4] at e2; omega
  · omega
