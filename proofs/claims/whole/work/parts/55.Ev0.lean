/-! ===== running: steps of the class's machine, steps of the model's evaluation ===== -/
/-- the machine but for its stack and its place -/
def KX (K : Mc) (st : Nat → Int32) (τ c : Nat) : Mc := (K.1, K.2.1, K.2.2.1, st, τ, K.2.2.2.2.2.1, c, K.2.2.2.2.2.2.2)
def VR (D : Co) (k : Nat) (A B : Mc) : Prop := ∀ n, mc_run D (n + k) A = mc_run D n B
def VE (D : Co) (k : Nat) (A : Mc) (E : String) (B : Mc) : Prop := ∀ n, mc_run D (n + k) A = (some E, B)
theorem VR.rf {D : Co} {A : Mc} : VR D 0 A A := fun _ => rfl
theorem VR.tr {D : Co} {k j : Nat} {A B C : Mc} (h : VR D k A B) (g : VR D j B C) : VR D (k + j) A C := fun n => by
  rw [show n + (k + j) = n + j + k by omega, h, g]
theorem VR.te {D : Co} {k j : Nat} {A B C : Mc} {E : String} (h : VR D k A B) (g : VE D j B E C) : VE D (k + j) A E C := fun n => by
  rw [show n + (k + j) = n + j + k by omega, h, g]
theorem VE.more {D : Co} {k j : Nat} {A B : Mc} {E : String} (h : VE D k A E B) (hj : k ≤ j) : VE D j A E B := fun n => by
  rw [show n + j = n + (j - k) + k by omega, h]
theorem vm1 {D : Co} {K B : Mc} {st : Nat → Int32} {τ c : Nat} (hc : c < D.2.2.2.2.2.2.1) (h : mc_perform D (KX K st τ (c + 1)) (D.1 c) (D.2.1 c) (D.2.2.1 c) = (none, B)) : VR D 1 (KX K st τ c) B := fun n => by
  show mc_run D (n + 1) (KX K st τ c) = _
  rw [mc_run]
  have h1 : ¬ D.2.2.2.2.2.2.1 ≤ (KX K st τ c).2.2.2.2.2.2.1 := Nat.not_le.mpr hc
  rw [if_neg h1]
  have h2 : mc_perform D ((KX K st τ c).1, (KX K st τ c).2.1, (KX K st τ c).2.2.1, (KX K st τ c).2.2.2.1, (KX K st τ c).2.2.2.2.1, (KX K st τ c).2.2.2.2.2.1, (KX K st τ c).2.2.2.2.2.2.1 + 1, (KX K st τ c).2.2.2.2.2.2.2.1, (KX K st τ c).2.2.2.2.2.2.2.2.1, (KX K st τ c).2.2.2.2.2.2.2.2.2.1, (KX K st τ c).2.2.2.2.2.2.2.2.2.2.1, (KX K st τ c).2.2.2.2.2.2.2.2.2.2.2) (D.1 (KX K st τ c).2.2.2.2.2.2.1) (D.2.1 (KX K st τ c).2.2.2.2.2.2.1) (D.2.2.1 (KX K st τ c).2.2.2.2.2.2.1) = (none, B) := h
  rw [h2]
theorem vmE {D : Co} {K B : Mc} {E : String} {st : Nat → Int32} {τ c : Nat} (hc : c < D.2.2.2.2.2.2.1) (h : mc_perform D (KX K st τ (c + 1)) (D.1 c) (D.2.1 c) (D.2.2.1 c) = (some E, B)) : VE D 1 (KX K st τ c) E B := fun n => by
  show mc_run D (n + 1) (KX K st τ c) = _
  rw [mc_run]
  have h1 : ¬ D.2.2.2.2.2.2.1 ≤ (KX K st τ c).2.2.2.2.2.2.1 := Nat.not_le.mpr hc
  rw [if_neg h1]
  have h2 : mc_perform D ((KX K st τ c).1, (KX K st τ c).2.1, (KX K st τ c).2.2.1, (KX K st τ c).2.2.2.1, (KX K st τ c).2.2.2.2.1, (KX K st τ c).2.2.2.2.2.1, (KX K st τ c).2.2.2.2.2.2.1 + 1, (KX K st τ c).2.2.2.2.2.2.2.1, (KX K st τ c).2.2.2.2.2.2.2.2.1, (KX K st τ c).2.2.2.2.2.2.2.2.2.1, (KX K st τ c).2.2.2.2.2.2.2.2.2.2.1, (KX K st τ c).2.2.2.2.2.2.2.2.2.2.2) (D.1 (KX K st τ c).2.2.2.2.2.2.1) (D.2.1 (KX K st τ c).2.2.2.2.2.2.1) (D.2.2.1 (KX K st τ c).2.2.2.2.2.2.1) = (some E, B) := h
  rw [h2]
theorem kx_push {K : Mc} {st : Nat → Int32} {τ c : Nat} {x : Int32} (h : τ < 21) : mc_push (KX K st τ c) x = KX K (upd st τ x) (τ + 1) c := by
  unfold mc_push
  rw [if_neg (show ¬ 21 ≤ (KX K st τ c).2.2.2.2.1 from Nat.not_le.mpr h)]
  rfl
theorem kx_pop {K : Mc} {st : Nat → Int32} {τ c : Nat} : mc_pop (KX K st (τ + 1) c) = (st τ, KX K st τ c) := by
  unfold mc_pop
  rw [if_neg (show ¬ (KX K st (τ + 1) c).2.2.2.2.1 = 0 from Nat.succ_ne_zero τ)]
  rfl
theorem kx_two {K : Mc} {st : Nat → Int32} {τ c : Nat} : mc_two (KX K st (τ + 2) c) = (st τ, st (τ + 1), KX K st τ c) := by
  unfold mc_two
  rw [show τ + 2 = (τ + 1) + 1 from rfl, kx_pop]
  show ((mc_pop (KX K st (τ + 1) c)).1, _, (mc_pop (KX K st (τ + 1) c)).2) = _
  rw [kx_pop]
theorem kx_out {K : Mc} {st : Nat → Int32} {τ c : Nat} : ∀ n f, mc_out (KX K st τ c) n f = mc_out K n f := by
  intro n
  induction n with
  | zero => intro f; rfl
  | succ n ih => intro f; exact ih _
theorem kx_addr {K : Mc} {st : Nat → Int32} {τ c k t : Nat} : mc_addr (KX K st τ c) k t = mc_addr K k t := by
  unfold mc_addr
  rw [kx_out]; rfl
/-- the code is what the class's compiler wrote from a on -/
def AGd (D : Co) (a : Nat) (S : CS) : Prop := cz S ≤ D.2.2.2.2.2.2.1 ∧ ∀ i, a ≤ i → i < cz S → D.1 i = S.2.2.1 i ∧ D.2.1 i = S.2.2.2.1 i ∧ D.2.2.1 i = S.2.2.2.2.1 i
theorem AGd.pf {D : Co} {a : Nat} {S S1 : CS} (p : PF S S1) (h : AGd D a S1) : AGd D a S := by
  refine ⟨Nat.le_trans p.1 h.1, fun i h1 h2 => ?_⟩
  have q := h.2 i h1 (Nat.lt_of_lt_of_le h2 p.1)
  have r := p.2.1 i h2
  exact ⟨q.1.trans r.1, q.2.1.trans r.2.1, q.2.2.trans r.2.2⟩
theorem AGd.lo {D : Co} {a b : Nat} {S : CS} (hb : a ≤ b) (h : AGd D a S) : AGd D b S := ⟨h.1, fun i h1 h2 => h.2 i (by omega) h2⟩
theorem add_at {S : CS} {x f t : Nat} (h : cz S < 300) : (cadd S x f t).2.2.1 (cz S) = x ∧ (cadd S x f t).2.2.2.1 (cz S) = f ∧ (cadd S x f t).2.2.2.2.1 (cz S) = t := by
  show (co_add S.2.2 x f t).1 (cz S) = x ∧ (co_add S.2.2 x f t).2.1 (cz S) = f ∧ (co_add S.2.2 x f t).2.2.1 (cz S) = t
  unfold co_add
  rw [if_neg (show ¬ 300 ≤ S.2.2.2.2.2.2.2.2.1 from Nat.not_le.mpr h)]
  exact ⟨va_same _ _ _, va_same _ _ _, va_same _ _ _⟩
theorem AGd.at {D : Co} {a : Nat} {S S1 : CS} {x f t : Nat} (h : AGd D a S1) (hz : cz S < 300) (p : PF (cadd S x f t) S1) (ha : a ≤ cz S) : cz S < D.2.2.2.2.2.2.1 ∧ D.1 (cz S) = x ∧ D.2.1 (cz S) = f ∧ D.2.2.1 (cz S) = t := by
  have g := h.pf p
  have e := cz_add (x := x) (f := f) (t := t) hz
  have q := g.2 (cz S) ha (by omega)
  have r := add_at (x := x) (f := f) (t := t) hz
  exact ⟨by have := g.1; omega, q.1.trans r.1, q.2.1.trans r.2.1, q.2.2.trans r.2.2⟩
/-! the model's evaluation -/
def VX (X : MS) (pc fl : Nat) (su te : Nat → Int32) (ss ts : Nat → Nat) : MS := (X.1, X.2.1, X.2.2.1, X.2.2.2.1, X.2.2.2.2.1, (X.2.2.2.2.2.1.1, X.2.2.2.2.2.1.2.1, X.2.2.2.2.2.1.2.2.1, X.2.2.2.2.2.1.2.2.2.1, X.2.2.2.2.2.1.2.2.2.2.1, X.2.2.2.2.2.1.2.2.2.2.2.1, X.2.2.2.2.2.1.2.2.2.2.2.2.1, X.2.2.2.2.2.1.2.2.2.2.2.2.2.1, X.2.2.2.2.2.1.2.2.2.2.2.2.2.2.1, pc, fl, X.2.2.2.2.2.1.2.2.2.2.2.2.2.2.2.2.2), (su, te, ss, ts, X.2.2.2.2.2.2.2.2.2.2))
def eH (d : Nat) (Z : MS) (v : Int32) (Z' : MS) : Prop := ∃ n, mo_evaluate_go n 0 d Z v Z'
def eA (d : Nat) (Z : MS) (v : Int32) (Z' : MS) : Prop := ∃ n, mo_evaluate_go n 1 d Z v Z'
def eE (d : Nat) (Z : MS) (v : Int32) (Z' : MS) : Prop := ∃ S16, mo_openSum d Z S16 ∧ eH d S16 v Z'
def mulR (g : Nat) (t f : Int32) : Option Int32 := if g = 0 then some f else if g = 42 then some (t * f) else if g = 47 then (if f = 0 then none else some (t / f)) else if g = 37 then (if f = 0 then none else some (t - t / f * f)) else some t
def addR (s : Int32) (k : Nat) (t : Int32) : Int32 := if k = 45 then s - t else s + t
section EV
variable {X : MS} {pc fl d : Nat} {su te : Nat → Int32} {ss ts : Nat → Nat} {v : Int32} {Z' : MS}
theorem mul_ok {f r : Int32} (hd : d < 10) (hl : ts d < 2147483648) (hg : ts d = 0 ∨ ts d = 42 ∨ ts d = 47 ∨ ts d = 37) (h : mulR (ts d) (te d) f = some r) : mo_multiply d f (VX X pc fl su te ss ts) (VX X pc fl su (upd te d r) ss ts) := by
  refine ⟨hd, hl, ?_⟩
  unfold mulR at h
  by_cases h0 : ts d = 0
  · rw [if_pos h0] at h
    cases h
    exact Or.inl ⟨h0, hd, hd, hd, hd, rfl⟩
  · rw [if_neg h0] at h
    refine Or.inr ⟨h0, hd, ?_⟩
    by_cases h42 : ts d = 42
    · rw [if_pos h42] at h
      cases h
      exact Or.inl ⟨h42, hd, hd, hd, hd, rfl⟩
    · rw [if_neg h42] at h
      refine Or.inr ⟨h42, hd, ?_⟩
      by_cases h47 : ts d = 47
      · rw [if_pos h47] at h
        refine Or.inl ⟨h47, ?_⟩
        by_cases hf : f = 0
        · rw [if_pos hf] at h; cases h
        · rw [if_neg hf] at h
          cases h
          exact Or.inr ⟨hf, hd, hd, hd, rfl⟩
      · rw [if_neg h47] at h
        refine Or.inr ⟨h47, hd, ?_⟩
        by_cases h37 : ts d = 37
        · rw [if_pos h37] at h
          refine Or.inl ⟨h37, ?_⟩
          by_cases hf : f = 0
          · rw [if_pos hf] at h; cases h
          · rw [if_neg hf] at h
            cases h
            exact Or.inr ⟨hf, hd, hd, hd, rfl⟩
        · omega
theorem mul_no {f : Int32} (hd : d < 10) (hl : ts d < 2147483648) (h : mulR (ts d) (te d) f = none) : mo_multiply d f (VX X pc fl su te ss ts) (VX X pc 2 su te ss ts) := by
  refine ⟨hd, hl, ?_⟩
  unfold mulR at h
  by_cases h0 : ts d = 0
  · rw [if_pos h0] at h; cases h
  · rw [if_neg h0] at h
    refine Or.inr ⟨h0, hd, ?_⟩
    by_cases h42 : ts d = 42
    · rw [if_pos h42] at h; cases h
    · rw [if_neg h42] at h
      refine Or.inr ⟨h42, hd, ?_⟩
      by_cases h47 : ts d = 47
      · rw [if_pos h47] at h
        refine Or.inl ⟨h47, ?_⟩
        by_cases hf : f = 0
        · exact Or.inl ⟨hf, rfl⟩
        · rw [if_neg hf] at h; cases h
      · rw [if_neg h47] at h
        refine Or.inr ⟨h47, hd, ?_⟩
        by_cases h37 : ts d = 37
        · rw [if_pos h37] at h
          refine Or.inl ⟨h37, ?_⟩
          by_cases hf : f = 0
          · exact Or.inl ⟨hf, rfl⟩
          · rw [if_neg hf] at h; cases h
        · rw [if_neg h37] at h; cases h
theorem ad_ok (hd : d < 10) (hl : ss d < 2147483648) : mo_add d (VX X pc fl su te ss ts) (VX X pc fl (upd su d (addR (su d) (ss d) (te d))) te ss ts) := by
  refine ⟨hd, hl, ?_⟩
  unfold addR
  by_cases h : ss d = 45
  · rw [if_pos h]
    exact Or.inl ⟨h, hd, hd, hd, rfl⟩
  · rw [if_neg h]
    exact Or.inr ⟨h, hd, hd, hd, rfl⟩
theorem eE_of (hd : d < 10) (hp : pc < 155) (hl : r_pKind X pc < 2147483648) (h : eH d (VX X (if r_pKind X pc = 45 then pc + 1 else pc) fl (upd su d (nI 0)) te (va_up ss d (r_pKind X pc)) (va_up ts d 0)) v Z') : eE d (VX X pc fl su te ss ts) v Z' := by
  refine ⟨_, ⟨hd, hp, hd, hd, hp, hl, ?_⟩, h⟩
  by_cases hk : r_pKind X pc = 45
  · rw [if_pos hk]
    exact Or.inl ⟨hk, rfl⟩
  · rw [if_neg hk]
    exact Or.inr ⟨hk, rfl⟩
theorem eH_fail (hd : d < 10) (hl : ss d < 2147483648) : eH d (VX X pc 2 su te ss ts) (addR (su d) (ss d) (te d)) (VX X pc 2 (upd su d (addR (su d) (ss d) (te d))) te ss ts) := by
  refine ⟨1, ?_⟩
  rw [mo_evaluate_go]
  exact ⟨(show 2 < 2147483648 by decide), Or.inr ⟨(show ¬ 2 = 0 by decide), _, ad_ok hd hl, hd, (upd_same _ _ _).symm, rfl⟩⟩
theorem eH_brk (hp : pc < 155) (hk : r_pKind X pc = 40) (h : eE (d + 1) (VX X (pc + 1) 0 su te ss ts) v Z') : eH d (VX X pc 0 su te ss ts) v Z' := by
  obtain ⟨S16, h1, n, h2⟩ := h
  refine ⟨n + 1, ?_⟩
  rw [mo_evaluate_go]
  exact ⟨(show 0 < 2147483648 by decide), Or.inl ⟨rfl, hp, (show r_pKind X pc < 2147483648 by omega), Or.inl ⟨hk, S16, h1, h2⟩⟩⟩
theorem eH_num {fl' : Nat} {te' : Nat → Int32} (hp : pc < 155) (hk : r_pKind X pc = 2) (hm : mo_multiply d (r_pWord X pc) (VX X pc 0 su te ss ts) (VX X pc fl' su te' ss ts)) (h : eA d (VX X (pc + 1) fl' su te' ss ts) v Z') : eH d (VX X pc 0 su te ss ts) v Z' := by
  obtain ⟨n, h2⟩ := h
  refine ⟨n + 1, ?_⟩
  rw [mo_evaluate_go]
  exact ⟨(show 0 < 2147483648 by decide), Or.inl ⟨rfl, hp, (show r_pKind X pc < 2147483648 by omega), Or.inr ⟨(show ¬ r_pKind X pc = 40 by omega), Or.inl ⟨hk, hp, _, hm, h2⟩⟩⟩⟩
theorem eH_var {fl' pl : Nat} {te' : Nat → Int32} (hp : pc < 155) (hk : r_pKind X pc = 1) (hpl : pl < 132) (hpp : mo_place (r_pMeans X pc) (VX X pc 0 su te ss ts) pl (VX X pc 0 su te ss ts)) (hm : mo_multiply d (r_cell X pl) (VX X pc 0 su te ss ts) (VX X pc fl' su te' ss ts)) (h : eA d (VX X (pc + 1) fl' su te' ss ts) v Z') : eH d (VX X pc 0 su te ss ts) v Z' := by
  obtain ⟨n, h2⟩ := h
  refine ⟨n + 1, ?_⟩
  rw [mo_evaluate_go]
  exact ⟨(show 0 < 2147483648 by decide), Or.inl ⟨rfl, hp, (show r_pKind X pc < 2147483648 by omega), Or.inr ⟨(show ¬ r_pKind X pc = 40 by omega), Or.inr ⟨(show ¬ r_pKind X pc = 2 by omega), hp, pl, _, hpp, hpl, _, hm, h2⟩⟩⟩⟩
theorem eA_close {fl' : Nat} {te' : Nat → Int32} (hp : pc < 155) (hd : d < 9) (hk : r_pKind X pc = 41) (hl : ss (d + 1) < 2147483648) (hm : mo_multiply d (addR (su (d + 1)) (ss (d + 1)) (te (d + 1))) (VX X (pc + 1) 0 (upd su (d + 1) (addR (su (d + 1)) (ss (d + 1)) (te (d + 1)))) te ss ts) (VX X (pc + 1) fl' (upd su (d + 1) (addR (su (d + 1)) (ss (d + 1)) (te (d + 1)))) te' ss ts)) (h : eA d (VX X (pc + 1) fl' (upd su (d + 1) (addR (su (d + 1)) (ss (d + 1)) (te (d + 1)))) te' ss ts) v Z') : eA (d + 1) (VX X pc 0 su te ss ts) v Z' := by
  obtain ⟨n, h2⟩ := h
  refine ⟨n + 1, ?_⟩
  rw [mo_evaluate_go]
  have hs : r_sum (VX X pc 0 (upd su (d + 1) (addR (su (d + 1)) (ss (d + 1)) (te (d + 1)))) te ss ts) (d + 1 - 1 + 1) = addR (su (d + 1)) (ss (d + 1)) (te (d + 1)) := upd_same _ _ _
  refine ⟨by omega, Or.inr ⟨by omega, hp, (show r_pKind X pc < 2147483648 by omega), Or.inl ⟨hk, (show 0 < 2147483648 by decide), Or.inl ⟨rfl, _, ad_ok (by omega) hl, by omega, by omega, _, ?_, h2⟩⟩⟩⟩
  rw [hs]
  exact hm
theorem eA_mul (hp : pc < 155) (hd : d < 10) (hk : r_pKind X pc = 42 ∨ r_pKind X pc = 47 ∨ r_pKind X pc = 37) (h : eH d (VX X (pc + 1) fl su te ss (va_up ts d (r_pKind X pc))) v Z') : eA d (VX X pc fl su te ss ts) v Z' := by
  obtain ⟨n, h2⟩ := h
  have hop : isOp (r_pKind X pc) = true := by rcases hk with q | q | q <;> rw [q] <;> decide
  have hl : r_pKind X pc < 2147483648 := by omega
  refine ⟨n + 1, ?_⟩
  rw [mo_evaluate_go]
  refine ⟨by omega, ?_⟩
  by_cases h0 : d = 0
  · exact Or.inl ⟨h0, hp, hl, Or.inl ⟨hop, Or.inr ⟨(show ¬ r_pKind X pc = 43 by omega), Or.inr ⟨(show ¬ r_pKind X pc = 45 by omega), hd, h2⟩⟩⟩⟩
  · exact Or.inr ⟨h0, hp, hl, Or.inr ⟨(show ¬ r_pKind X pc = 41 by omega), hp, Or.inl ⟨hop, Or.inr ⟨(show ¬ r_pKind X pc = 43 by omega), Or.inr ⟨(show ¬ r_pKind X pc = 45 by omega), hd, h2⟩⟩⟩⟩⟩
theorem eA_add (hp : pc < 155) (hd : d < 10) (hl : ss d < 2147483648) (hk : r_pKind X pc = 43 ∨ r_pKind X pc = 45) (h : eH d (VX X (pc + 1) fl (upd su d (addR (su d) (ss d) (te d))) te (va_up ss d (r_pKind X pc)) (va_up ts d 0)) v Z') : eA d (VX X pc fl su te ss ts) v Z' := by
  obtain ⟨n, h2⟩ := h
  have hop : isOp (r_pKind X pc) = true := by rcases hk with q | q <;> rw [q] <;> decide
  have hll : r_pKind X pc < 2147483648 := by omega
  refine ⟨n + 1, ?_⟩
  rw [mo_evaluate_go]
  refine ⟨by omega, ?_⟩
  by_cases h0 : d = 0
  · refine Or.inl ⟨h0, hp, hll, Or.inl ⟨hop, ?_⟩⟩
    rcases hk with q | q
    · exact Or.inl ⟨q, _, ad_ok hd hl, hd, hd, h2⟩
    · exact Or.inr ⟨(show ¬ r_pKind X pc = 43 by omega), Or.inl ⟨q, _, ad_ok hd hl, hd, hd, h2⟩⟩
  · refine Or.inr ⟨h0, hp, hll, Or.inr ⟨(show ¬ r_pKind X pc = 41 by omega), hp, Or.inl ⟨hop, ?_⟩⟩⟩
    rcases hk with q | q
    · exact Or.inl ⟨q, _, ad_ok hd hl, hd, hd, h2⟩
    · exact Or.inr ⟨(show ¬ r_pKind X pc = 43 by omega), Or.inl ⟨q, _, ad_ok hd hl, hd, hd, h2⟩⟩
theorem eA_end (hp : pc < 155) (hd : d < 10) (hl : ss d < 2147483648) (hkl : r_pKind X pc < 2147483648) (hop : ¬ isOp (r_pKind X pc) = true) (h41 : d = 0 ∨ ¬ r_pKind X pc = 41 ∨ ¬ fl = 0) (hfl : fl < 2147483648) : eA d (VX X pc fl su te ss ts) (addR (su d) (ss d) (te d)) (VX X pc fl (upd su d (addR (su d) (ss d) (te d))) te ss ts) := by
  refine ⟨1, ?_⟩
  rw [mo_evaluate_go]
  refine ⟨by omega, ?_⟩
  have hs := (upd_same su d (addR (su d) (ss d) (te d))).symm
  by_cases h0 : d = 0
  · exact Or.inl ⟨h0, hp, hkl, Or.inr ⟨hop, _, ad_ok hd hl, hd, hs, rfl⟩⟩
  · refine Or.inr ⟨h0, hp, hkl, ?_⟩
    by_cases h4 : r_pKind X pc = 41
    · exact Or.inl ⟨h4, hfl, Or.inr ⟨(show ¬ fl = 0 by omega), hp, Or.inr ⟨hop, _, ad_ok hd hl, hd, hs, rfl⟩⟩⟩
    · exact Or.inr ⟨h4, hp, Or.inr ⟨hop, _, ad_ok hd hl, hd, hs, rfl⟩⟩
/-- once it has failed, it ends -/
theorem eA_fail (hp : pc + 1 < 155) (hd : d < 10) (hl : ss d < 2147483648) (hkl : r_pKind X pc < 2147483648) : ∃ v pc' su' te' ss' ts', pc' < 155 ∧ eA d (VX X pc 2 su te ss ts) v (VX X pc' 2 su' te' ss' ts') := by
  by_cases hop : isOp (r_pKind X pc) = true
  · have hk : (r_pKind X pc = 43 ∨ r_pKind X pc = 45) ∨ (r_pKind X pc = 42 ∨ r_pKind X pc = 47 ∨ r_pKind X pc = 37) := by
      unfold isOp at hop
      simp only [Bool.or_eq_true, decide_eq_true_eq] at hop
      omega
    rcases hk with hk | hk
    · refine ⟨_, _, _, _, _, _, hp, eA_add (by omega) hd hl hk (eH_fail hd ?_)⟩
      rw [va_same]; exact hkl
    · exact ⟨_, _, _, _, _, _, hp, eA_mul (by omega) hd hk (eH_fail hd hl)⟩
  · exact ⟨_, _, _, _, _, _, Nat.lt_of_succ_lt hp, eA_end (by omega) hd hl hkl hop (Or.inr (Or.inr (by decide))) (by decide)⟩
end EV
