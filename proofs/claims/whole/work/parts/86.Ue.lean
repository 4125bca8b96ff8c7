/-! ===== compile, class and model ===== -/
section
variable {f : Nat → Nat} {L : Nat} {X : MS}
/-- the places -/
def PLR (T : Tk) (m : Nat) (Z : MS) : Prop := r_tokens Z ≤ 151 ∧ ∀ t, t ≤ m → t < 155 ∧ ((r_tokens Z ≤ t ∧ T.2.1 t = if r_tokens Z = 0 then 0 else r_to Z (r_tokens Z - 1)) ∨ (¬ r_tokens Z ≤ t ∧ T.2.1 t = r_from Z t))
theorem cut_both (hX : TX f L X) (T : Tk) (b : Nat) : ∃ m K W A B n, mo_cutAll X (CX X K W A B n) ∧ TkOk (tk_all f T b L) m ∧ TR (tk_all f T b L) m (CX X K W A B n) ∧ NO (tk_all f T b L) m ∧ PLR (tk_all f T b L) m (CX X K W A B n) := by
  obtain ⟨m, K, W, A, B, n, h1, h2, ⟨k, e1, e2, e3⟩, h4⟩ := tf_all hX 151 0 (T.1, T.2.1, T.2.2.1, 0) (r_kind X) (r_word X) (r_from X) (r_to X) rfl (by decide) (fun j hj => by omega) (Nat.zero_le _) rfl
  have q : ∀ j, j < m → ∃ k, (tk_all f T b L).1 j = some k ∧ k < 27 ∧ K j = kap k ∧ A j = (tk_all f T b L).2.1 j ∧ ((k = 25 ∨ k = 26) → W j = (tk_all f T b L).2.2.1 j) ∧ (k = 26 → i32n ((tk_all f T b L).2.2.1 j).toInt32 < 2 ^ 31) := h2
  have g1 : (tk_all f T b L).1 m = some k := e1
  have g3 : (k = 27 ∧ n = m + 1 ∧ A m = (tk_all f T b L).2.1 m) ∨ (k = 28 ∧ n = m ∧ (tk_all f T b L).2.1 m = if m = 0 then 0 else B (m - 1)) := e3
  generalize tk_all f T b L = TT at q g1 g3
  have km : kd TT m = k := by unfold kd; rw [g1]; rfl
  have kj : ∀ j, j < m → ∃ k, TT.1 j = some k ∧ kd TT j = k ∧ k < 27 ∧ K j = kap k ∧ A j = TT.2.1 j ∧ ((k = 25 ∨ k = 26) → W j = TT.2.2.1 j) ∧ (k = 26 → i32n (TT.2.2.1 j).toInt32 < 2 ^ 31) := by
    intro j hj
    obtain ⟨k', a1, a2⟩ := q j hj
    exact ⟨k', a1, by unfold kd; rw [a1]; rfl, a2⟩
  refine ⟨m, K, W, A, B, n, h4, ⟨h1, ?_, ?_⟩, ⟨?_, ?_⟩, ?_, ?_, ?_⟩
  · intro i hi
    rcases Nat.eq_or_lt_of_le hi with e | e
    · subst e; exact ⟨k, g1, by omega⟩
    · obtain ⟨k', a1, a2, a3, a4⟩ := kj i e
      exact ⟨k', a1, by omega⟩
  · rw [km]; omega
  · intro i hi
    rcases Nat.eq_or_lt_of_le hi with e | e
    · subst e; rw [km]; exact e2
    · obtain ⟨k', a1, a2, a3, a4, a5⟩ := kj i e
      rw [a2]; exact a4
  · intro i hi hk
    obtain ⟨k', a1, a2, a3, a4, a5, a6, a7⟩ := kj i hi
    rw [a2] at hk
    exact a6 hk
  · intro i hi hk
    rcases Nat.eq_or_lt_of_le hi with e | e
    · subst e; rw [km] at hk; omega
    · obtain ⟨k', a1, a2, a3, a4, a5, a6, a7⟩ := kj i e
      rw [a2] at hk
      exact a7 hk
  · show n ≤ 151
    omega
  · intro t ht
    refine ⟨by omega, ?_⟩
    show (n ≤ t ∧ TT.2.1 t = if n = 0 then 0 else B (n - 1)) ∨ (¬ n ≤ t ∧ TT.2.1 t = A t)
    rcases Nat.eq_or_lt_of_le ht with e | e
    · subst e
      rcases g3 with ⟨b1, b2, b3⟩ | ⟨b1, b2, b3⟩
      · exact Or.inr ⟨by omega, b3.symm⟩
      · subst b2; exact Or.inl ⟨Nat.le_refl _, b3⟩
    · obtain ⟨k', a1, a2, a3, a4, a5, a6, a7⟩ := kj t e
      refine Or.inr ⟨by omega, a5.symm⟩
/-- the groups that a refused text leaves -/
def GN (X X' : MS) (q : Nat) : Prop := X'.1 = (1, X.1.2.1, X.1.2.2.1, nI q, X.1.2.2.2.2) ∧ X'.2.2.2.1 = X.2.2.2.1 ∧ X'.2.2.2.2.2.1 = X.2.2.2.2.2.1
def GY (X X' : MS) : Prop := X'.1 = (0, X.1.2.1, X.1.2.2.1, -1, true) ∧ X'.2.2.2.2.2.1 = X.2.2.2.2.2.1
theorem TX.thrown (h : TX f L X) (k : Nat) : TX f L (w_thrown X k) := h
theorem mo_comp_no {Z Z2 : MS} {t q : Nat} (h1 : mo_cutAll (w_thrown X 0) Z) (h2 : mo_readProgram (w_wrong (w_at Z 0) none) Z2) (hw : r_wrong Z2 = some t) (ht : t < 155) (hn : r_tokens Z2 ≤ 151) (hp : (r_tokens Z2 ≤ t ∧ q = if r_tokens Z2 = 0 then 0 else r_to Z2 (r_tokens Z2 - 1)) ∨ (¬ r_tokens Z2 ≤ t ∧ q = r_from Z2 t)) : mo_compile X 0 (w_thrown (w_fault Z2 (nI q)) 1) := by
  refine ⟨Z, h1, Z2, h2, Or.inr ⟨t, hw, by omega, by omega, ?_⟩⟩
  rcases hp with ⟨p1, p2⟩ | ⟨p1, p2⟩
  · refine Or.inl ⟨p1, ?_⟩
    by_cases h0 : r_tokens Z2 = 0
    · rw [if_pos h0] at p2
      subst p2
      exact Or.inl ⟨h0, 0, _, ⟨rfl, rfl⟩, rfl, rfl⟩
    · rw [if_neg h0] at p2
      subst p2
      exact Or.inr ⟨h0, by omega, by omega, 0, _, ⟨rfl, rfl⟩, rfl, rfl⟩
  · subst p2
    exact Or.inr ⟨p1, ht, 0, _, ⟨rfl, rfl⟩, rfl, rfl⟩
theorem mo_comp_yes {Z Z2 : MS} {v : Nat} {X' : MS} (h1 : mo_cutAll (w_thrown X 0) Z) (h2 : mo_readProgram (w_wrong (w_at Z 0) none) Z2) (hw : r_wrong Z2 = none) (hg : cG 0 0 (w_program (w_fault Z2 (-1)) true) v X') : mo_compile X v X' :=
  ⟨Z, h1, Z2, h2, Or.inl ⟨hw, hg⟩⟩
theorem GN.of {Z : MS} {Y : MS2} {a t d q : Nat} {μ ν wi si : Nat → Nat} (h0 : Z.1 = (0, X.1.2)) (h3 : Z.2.2.2.1 = X.2.2.2.1) (h5 : Z.2.2.2.2.2.1 = X.2.2.2.2.2.1) : GN X (w_thrown (w_fault (BX (w_wrong (w_at Z 0) none) Y a (some t) μ ν wi si d) (nI q)) 1) q := by
  refine ⟨?_, h3, h5⟩
  show (1, Z.1.2.1, Z.1.2.2.1, nI q, Z.1.2.2.2.2) = _
  rw [h0]
theorem GY.of {Z : MS} {Y : MS2} {a d : Nat} {μ ν wi si : Nat → Nat} {p : MS3} (h0 : Z.1 = (0, X.1.2)) (h5 : Z.2.2.2.2.2.1 = X.2.2.2.2.2.1) : GY X (PX (w_program (w_fault (BX (w_wrong (w_at Z 0) none) Y a none μ ν wi si d) (-1)) true) p) := by
  refine ⟨?_, h5⟩
  show (Z.1.1, Z.1.2.1, Z.1.2.2.1, (-1 : Int32), true) = _
  rw [h0]
theorem RG.of {T : Tk} {m : Nat} {Z : MS} {Y : MS2} {a d : Nat} {μ ν wi si : Nat → Nat} {p : MS3} {W : MS} (hW : W = w_program (w_fault (BX (w_wrong (w_at Z 0) none) Y a none μ ν wi si d) (-1)) true) (tk : TkOk T m) (hT : TR T m Z) (c1 : ∀ t, t < 155 → p.1 t = r_kind W t ∧ p.2.1 t = (r_word W t).toInt32 ∧ p.2.2.1 t = r_means W t ∧ p.2.2.2.1 t = r_next W t) (c2 : ∀ t, t < 18 → p.2.2.2.2.1 t = r_sort W t ∧ p.2.2.2.2.2.1 t = r_home W t ∧ p.2.2.2.2.2.2.1 t = r_own W t ∧ p.2.2.2.2.2.2.2.1 t = r_wants W t) (c3 : ∀ t, t < 8 → p.2.2.2.2.2.2.2.2 t = r_body W t) : RG T m Y μ ν (PX W p) := by
  subst hW
  have tm := tk.1
  refine ⟨⟨?_, ?_⟩, ?_, ?_, ?_⟩
  · intro i hi
    exact (c1 i (by omega)).1.trans (hT.1 i hi)
  · intro i hi hk
    refine (c1 i (by omega)).2.1.trans ?_
    have := hT.2 i hi (Or.inr hk)
    show (r_word Z i).toInt32 = _
    rw [this]
  · exact c2
  · exact c3
  · intro t ht
    exact ⟨(c1 t ht).2.2.1, (c1 t ht).2.2.2⟩
/-- both compile alike -/
theorem comp_both (hX : TX f L X) (T : Tk) (b : Nat) {N : Nm} {C : Co} (oN : NmOk N) (oC : CoOk C) (hC : KO C) : ∃ m, TkOk (tk_all f T b L) m ∧ (∀ S1, (cp_all (tk_all f T b L) (cp_s0 N C)).2 = S1 → NmOk S1.2.1 ∧ CoOk S1.2.2 ∧ KO S1.2.2) ∧ ((∃ q S1 X', cp_all (tk_all f T b L) (cp_s0 N C) = (.inl q, S1) ∧ mo_compile X 0 X' ∧ GN X X' q) ∨ (∃ v S1 X' Y μ ν, cp_all (tk_all f T b L) (cp_s0 N C) = (.inr v, S1) ∧ mo_compile X v X' ∧ GY X X' ∧ PG (tk_all f T b L) m Y S1.2.2 μ ν ∧ RG (tk_all f T b L) m Y μ ν X' ∧ S1.2.2.2.2.2.2.2.2.2 < 2 ^ 31)) := by
  obtain ⟨m, K, W, A, B, n, h1, tk, hT, no, hP⟩ := cut_both (hX.thrown 0) T b
  refine ⟨m, tk, ?_, ?_⟩
  · intro S1 e
    subst e
    have := ok_all tk no oN oC hC
    exact ⟨this.1.2.1, this.1.2.2, this.2⟩
  · have z0 : (CX (w_thrown X 0) K W A B n).1 = (0, X.1.2) := rfl
    have z3 : (CX (w_thrown X 0) K W A B n).2.2.2.1 = X.2.2.2.1 := rfl
    have z5 : (CX (w_thrown X 0) K W A B n).2.2.2.2.2.1 = X.2.2.2.2.2.1 := rfl
    generalize CX (w_thrown X 0) K W A B n = Z at h1 hT hP z0 z3 z5
    generalize tk_all f T b L = TT at tk hT no hP
    have r := read_all (X := w_wrong (w_at Z 0) none) tk hT rfl rfl oN oC
    rcases hR : cp_all TT (cp_s0 N C) with ⟨q | v, S1⟩
    · rw [hR] at r
      obtain ⟨t, Y, a, μ, ν, wi, si, d, ht, hq, hr⟩ := r
      refine Or.inl ⟨q, S1, _, rfl, mo_comp_no (q := q) h1 hr rfl (hP.2 t ht).1 hP.1 ?_, GN.of z0 z3 z5⟩
      have := (hP.2 t ht).2
      rw [hq] at this
      exact this
    · have ko := ko_all tk no oN oC hC hR
      rw [hR] at r
      obtain ⟨Y, μ, ν, wi, si, d, hv, ho, hpg, hr⟩ := r
      obtain ⟨p, g1, g2, g3, g4⟩ := cg_all (w_program (w_fault (BX (w_wrong (w_at Z 0) none) Y S1.1 none μ ν wi si d) (-1)) true)
      subst hv
      exact Or.inr ⟨_, S1, _, Y, μ, ν, rfl, mo_comp_yes h1 hr rfl g1, GY.of z0 z5, hpg, RG.of rfl tk hT g2 g3 g4, ko.2⟩
end
