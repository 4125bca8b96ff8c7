/-! ===== declarations: class and model ===== -/
/-- the tables with one more symbol -/
def dY (Y : MS2) (k : Nat) (w : Int64) : MS2 := (va_up Y.1 Y.2.2.2.2.2.1 w, va_up Y.2.1 Y.2.2.2.2.2.1 k, va_up Y.2.2.1 Y.2.2.2.2.2.1 Y.2.2.2.2.2.2.2.2.2.2.2, Y.2.2.2.1, va_up Y.2.2.2.2.1 Y.2.2.2.2.2.1 0, Y.2.2.2.2.2.1 + 1, (if k = 3 then Y.2.2.2.2.2.2.1 else Y.2.2.2.2.2.2.1 + 1), (if k = 3 then Y.2.2.2.2.2.2.2.1 + 1 else Y.2.2.2.2.2.2.2.1), Y.2.2.2.2.2.2.2.2)
def BX (X : MS) (Y : MS2) (a : Nat) (w : Option Nat) (μ ν wi si : Nat → Nat) (de : Nat) : MS := (X.1, (X.2.1.1, X.2.1.2.1, X.2.1.2.2.1, X.2.1.2.2.2.1, μ, ν, X.2.1.2.2.2.2.2.2), Y, X.2.2.2.1, (a, w, wi, si, de), X.2.2.2.2.2.1, X.2.2.2.2.2.2)
section DC
variable {X : MS} {Y : MS2} {a d : Nat} {μ ν wi si : Nat → Nat}
theorem dg_w {k t : Nat} (hk : k < 2147483648) (ht : t < 2147483648) (ha : a < 155) (hs : Y.2.2.2.2.2.1 ≤ 18) (hh : ∀ s, s < Y.2.2.2.2.2.1 → Y.2.2.1 s < 2147483648) (hb : Y.2.2.2.2.2.2.2.2.2.2.2 < 2147483648) : ∀ j s, s + j = Y.2.2.2.2.2.1 → mo_declare_go k (j + 1) 0 s (BX X Y a (some t) μ ν wi si d) (BX X Y a (some t) μ ν wi si d) := by
  intro j
  induction j with
  | zero =>
    intro s hj
    rw [mo_declare_go]
    have e : r_symbols (BX X Y a (some t) μ ν wi si d) = Y.2.2.2.2.2.1 := rfl
    exact ⟨by omega, by omega, Or.inl ⟨by omega, Or.inr ⟨t, rfl, ht, rfl⟩⟩⟩
  | succ j ih =>
    intro s hj
    rw [mo_declare_go]
    have e : r_symbols (BX X Y a (some t) μ ν wi si d) = Y.2.2.2.2.2.1 := rfl
    have r := ih (s + 1) (by omega)
    refine ⟨by omega, by omega, Or.inr ⟨by omega, by omega, hh s (by omega), hb, ?_⟩⟩
    by_cases h1 : Y.2.2.1 s = Y.2.2.2.2.2.2.2.2.2.2.2
    · refine Or.inl ⟨h1, by omega, ha, ?_⟩
      by_cases h2 : Y.1 s = X.2.1.2.1 a
      · exact Or.inl ⟨h2, _, mo_blame_w (X := BX X Y a (some t) μ ν wi si d) rfl ht, r⟩
      · exact Or.inr ⟨h2, r⟩
    · exact Or.inr ⟨h1, r⟩
theorem dg_d {k : Nat} (hk : k < 2147483648) (ha : a < 155) (hs : Y.2.2.2.2.2.1 ≤ 18) (hh : ∀ s, s < Y.2.2.2.2.2.1 → Y.2.2.1 s < 2147483648) (hb : Y.2.2.2.2.2.2.2.2.2.2.2 < 2147483648) : ∀ j s, s + j = Y.2.2.2.2.2.1 → (∃ q, s ≤ q ∧ q < Y.2.2.2.2.2.1 ∧ Y.2.2.1 q = Y.2.2.2.2.2.2.2.2.2.2.2 ∧ Y.1 q = X.2.1.2.1 a) → mo_declare_go k (j + 1) 0 s (BX X Y a none μ ν wi si d) (BX X Y a (some a) μ ν wi si d) := by
  intro j
  induction j with
  | zero =>
    rintro s hj ⟨q, h1, h2, _⟩
    omega
  | succ j ih =>
    rintro s hj ⟨q, z1, z2, z3, z4⟩
    rw [mo_declare_go]
    have e : r_symbols (BX X Y a none μ ν wi si d) = Y.2.2.2.2.2.1 := rfl
    refine ⟨by omega, by omega, Or.inr ⟨by omega, by omega, hh s (by omega), hb, ?_⟩⟩
    by_cases h1 : Y.2.2.1 s = Y.2.2.2.2.2.2.2.2.2.2.2
    · refine Or.inl ⟨h1, by omega, ha, ?_⟩
      by_cases h2 : Y.1 s = X.2.1.2.1 a
      · exact Or.inl ⟨h2, _, mo_blame_n (X := BX X Y a none μ ν wi si d) rfl, dg_w hk (show a < 2147483648 by omega) ha hs hh hb j (s + 1) (by omega)⟩
      · exact Or.inr ⟨h2, ih (s + 1) (by omega) ⟨q, by have : q ≠ s := fun w => h2 (w ▸ z4); omega, z2, z3, z4⟩⟩
    · exact Or.inr ⟨h1, ih (s + 1) (by omega) ⟨q, by have : q ≠ s := fun w => h1 (w ▸ z3); omega, z2, z3, z4⟩⟩
theorem dg_n {k : Nat} (hk : k < 2147483648) (ha : a < 155) (hs : Y.2.2.2.2.2.1 < 18) (hh : ∀ s, s < Y.2.2.2.2.2.1 → Y.2.2.1 s < 2147483648) (hb : Y.2.2.2.2.2.2.2.2.2.2.2 < 2147483648) : ∀ j s, s + j = Y.2.2.2.2.2.1 → (¬ ∃ q, s ≤ q ∧ q < Y.2.2.2.2.2.1 ∧ Y.2.2.1 q = Y.2.2.2.2.2.2.2.2.2.2.2 ∧ Y.1 q = X.2.1.2.1 a) → mo_declare_go k (j + 1) 0 s (BX X Y a none μ ν wi si d) (BX X (dY Y k (X.2.1.2.1 a)) (a + 1) none μ ν wi si d) := by
  intro j
  induction j with
  | zero =>
    intro s hj _
    rw [mo_declare_go]
    have e : r_symbols (BX X Y a none μ ν wi si d) = Y.2.2.2.2.2.1 := rfl
    refine ⟨by omega, by omega, Or.inl ⟨by omega, Or.inl ⟨rfl, ha, hs, hs, hs, hs, hk, ?_⟩⟩⟩
    unfold dY
    by_cases h3 : k = 3
    · subst h3
      exact Or.inl ⟨rfl, rfl⟩
    · rw [if_neg h3, if_neg h3]
      exact Or.inr ⟨h3, rfl⟩
  | succ j ih =>
    intro s hj hn
    rw [mo_declare_go]
    have e : r_symbols (BX X Y a none μ ν wi si d) = Y.2.2.2.2.2.1 := rfl
    have r := ih (s + 1) (by omega) (fun ⟨q, z1, z⟩ => hn ⟨q, by omega, z⟩)
    refine ⟨by omega, by omega, Or.inr ⟨by omega, by omega, hh s (by omega), hb, ?_⟩⟩
    by_cases h1 : Y.2.2.1 s = Y.2.2.2.2.2.2.2.2.2.2.2
    · exact Or.inl ⟨h1, by omega, ha, Or.inr ⟨fun h2 => hn ⟨s, Nat.le_refl _, by omega, h1, h2⟩, r⟩⟩
    · exact Or.inr ⟨h1, r⟩
theorem dc_w {k t : Nat} (ht : t < 2147483648) : mo_declare k (BX X Y a (some t) μ ν wi si d) (BX X Y a (some t) μ ν wi si d) := Or.inr ⟨t, rfl, ht, _, mo_blame_w (X := BX X Y a (some t) μ ν wi si d) rfl ht, rfl⟩
theorem dc_kind {k : Nat} (ha : a < 155) (hl : r_kind X a < 2147483648) (h1 : ¬ r_kind X a = 1) : mo_declare k (BX X Y a none μ ν wi si d) (BX X Y a (some a) μ ν wi si d) := Or.inl ⟨rfl, ha, hl, Or.inr ⟨h1, _, mo_blame_n (X := BX X Y a none μ ν wi si d) rfl, rfl⟩⟩
theorem dc_bad {k : Nat} (hk : k < 2147483648) (ha : a < 155) (h1 : r_kind X a = 1) (hv : Y.2.2.2.2.2.2.1 ≤ 12) (hp : Y.2.2.2.2.2.2.2.1 ≤ 6) (hsy : Y.2.2.2.2.2.1 = Y.2.2.2.2.2.2.1 + Y.2.2.2.2.2.2.2.1) (hh : ∀ s, s < Y.2.2.2.2.2.1 → Y.2.2.1 s < 2147483648) (hb : Y.2.2.2.2.2.2.2.2.2.2.2 < 2147483648) (hbad : (k = 3 ∧ Y.2.2.2.2.2.2.2.1 = 6 ∨ ¬ k = 3 ∧ Y.2.2.2.2.2.2.1 = 12) ∨ (∃ q, q < Y.2.2.2.2.2.1 ∧ Y.2.2.1 q = Y.2.2.2.2.2.2.2.2.2.2.2 ∧ Y.1 q = X.2.1.2.1 a)) : mo_declare k (BX X Y a none μ ν wi si d) (BX X Y a (some a) μ ν wi si d) := by
  refine Or.inl ⟨rfl, ha, (show r_kind X a < 2147483648 by omega), Or.inl ⟨h1, hk, ?_⟩⟩
  have gol : ¬ (k = 3 ∧ Y.2.2.2.2.2.2.2.1 = 6 ∨ ¬ k = 3 ∧ Y.2.2.2.2.2.2.1 = 12) → ∃ n, mo_declare_go k n 0 0 (BX X Y a none μ ν wi si d) (BX X Y a (some a) μ ν wi si d) := by
    intro hn
    rcases hbad with h | ⟨q, h⟩
    · exact absurd h hn
    · exact ⟨_, dg_d (X := X) (Y := Y) (a := a) (d := d) (μ := μ) (ν := ν) (wi := wi) (si := si) (k := k) hk ha (by omega) hh hb Y.2.2.2.2.2.1 0 (by omega) ⟨q, Nat.zero_le _, h⟩⟩
  by_cases h3 : k = 3
  · refine Or.inl ⟨h3, (show Y.2.2.2.2.2.2.2.1 < 2147483648 by omega), ?_⟩
    by_cases h6 : Y.2.2.2.2.2.2.2.1 = 6
    · exact Or.inl ⟨h6, _, mo_blame_n (X := BX X Y a none μ ν wi si d) rfl, rfl⟩
    · exact Or.inr ⟨h6, gol (by omega)⟩
  · refine Or.inr ⟨h3, (show Y.2.2.2.2.2.2.1 < 2147483648 by omega), ?_⟩
    by_cases h6 : Y.2.2.2.2.2.2.1 = 12
    · exact Or.inl ⟨h6, _, mo_blame_n (X := BX X Y a none μ ν wi si d) rfl, rfl⟩
    · exact Or.inr ⟨h6, gol (by omega)⟩
theorem dc_ok {k : Nat} (hk : k < 2147483648) (ha : a < 155) (h1 : r_kind X a = 1) (hv : Y.2.2.2.2.2.2.1 ≤ 12) (hp : Y.2.2.2.2.2.2.2.1 ≤ 6) (hsy : Y.2.2.2.2.2.1 = Y.2.2.2.2.2.2.1 + Y.2.2.2.2.2.2.2.1) (hh : ∀ s, s < Y.2.2.2.2.2.1 → Y.2.2.1 s < 2147483648) (hb : Y.2.2.2.2.2.2.2.2.2.2.2 < 2147483648) (hf : ¬ (k = 3 ∧ Y.2.2.2.2.2.2.2.1 = 6 ∨ ¬ k = 3 ∧ Y.2.2.2.2.2.2.1 = 12)) (hn : ¬ ∃ q, q < Y.2.2.2.2.2.1 ∧ Y.2.2.1 q = Y.2.2.2.2.2.2.2.2.2.2.2 ∧ Y.1 q = X.2.1.2.1 a) : mo_declare k (BX X Y a none μ ν wi si d) (BX X (dY Y k (X.2.1.2.1 a)) (a + 1) none μ ν wi si d) := by
  have r := dg_n (X := X) (Y := Y) (a := a) (d := d) (μ := μ) (ν := ν) (wi := wi) (si := si) (k := k) hk ha (by omega) hh hb Y.2.2.2.2.2.1 0 (by omega) (fun ⟨q, _, z⟩ => hn ⟨q, z⟩)
  refine Or.inl ⟨rfl, ha, (show r_kind X a < 2147483648 by omega), Or.inl ⟨h1, hk, ?_⟩⟩
  by_cases h3 : k = 3
  · exact Or.inl ⟨h3, (show Y.2.2.2.2.2.2.2.1 < 2147483648 by omega), Or.inr ⟨(show ¬ Y.2.2.2.2.2.2.2.1 = 6 by omega), _, r⟩⟩
  · exact Or.inr ⟨h3, (show Y.2.2.2.2.2.2.1 < 2147483648 by omega), Or.inr ⟨(show ¬ Y.2.2.2.2.2.2.1 = 12 by omega), _, r⟩⟩
end DC
section DN
variable {N : Nm} {σ bl : Nat → Nat} {Y : MS2}
theorem NR.twice (o : NmOk N) (h : NR N σ bl Y) (w : Int64) : nm_twice N w = true ↔ ∃ q, q < Y.2.2.2.2.2.1 ∧ Y.2.2.1 q = Y.2.2.2.2.2.2.2.2.2.2.2 ∧ Y.1 q = w := by
  obtain ⟨⟨hv, hp, hsy⟩, ⟨hblk, hbb, hb7⟩, hB, hK, hmono, hcomp, huni, hslots, hhome, hcp⟩ := h
  obtain ⟨o1, o2, o3, o4, o5, o6, o7, o8, o9⟩ := o
  unfold nm_twice
  constructor
  · intro h
    rcases hf : nm_find N w with _ | i
    · rw [hf] at h; cases h
    · rw [hf] at h
      have h : N.2.2.1 i = N.2.2.2.2.2.2.1 := of_decide_eq_true h
      obtain ⟨hi, hw⟩ := nm_find_lt hf
      have k := hK i hi
      exact ⟨σ i, k.1, by rw [k.2.2.1, h, hblk], by rw [k.2.1, hw]⟩
  · rintro ⟨q, h1, h2, h3⟩
    obtain ⟨i, hi, e⟩ := hcomp q N.2.2.2.2.2.2.1 h1 (Nat.le_refl _) (by rw [h2, hblk])
    subst e
    have k := hK i hi
    have hl : N.2.2.1 i = N.2.2.2.2.2.2.1 := hB.inj (o9 i hi) (Nat.le_refl _) (by rw [← k.2.2.1, h2, hblk])
    have hw : N.1 i = w := k.2.1.symm.trans h3
    rcases hf : nm_find N w with _ | j
    · exact absurd hw (nm_findAt_none hf i hi)
    · obtain ⟨hj, hwj⟩ := nm_find_lt hf
      have hij : i ≤ j := by
        rcases Nat.lt_or_ge j i with z | z
        · exact absurd hw (nm_findAt_max hf i z hi)
        · exact z
      have := o8 i j hij hj
      have := o9 j hj
      exact decide_eq_true (show N.2.2.1 j = N.2.2.2.2.2.2.1 by omega)
/-- one more name on both sides -/
theorem NR.add {w : Int64} {k km : Nat} (o : NmOk N) (h : NR N σ bl Y) (hs : sr k km) (ht : nm_twice N w = false) : NR (nm_add N w k) (va_up σ N.2.2.2.2.2.1 Y.2.2.2.2.2.1) bl (dY Y km w) := by
  have htw : ¬ ∃ q, q < Y.2.2.2.2.2.1 ∧ Y.2.2.1 q = Y.2.2.2.2.2.2.2.2.2.2.2 ∧ Y.1 q = w := by
    intro q
    have := (h.twice o w).mpr q
    rw [ht] at this
    cases this
  obtain ⟨⟨hv, hp, hsy⟩, ⟨hblk, hbb, hb7⟩, hB, hK, hmono, hcomp, huni, hslots, hhome, hcp⟩ := h
  obtain ⟨o1, o2, o3, o4, o5, o6, o7, o8, o9⟩ := o
  have up : ∀ {α : Type} (f : Nat → α) (x : α) (q : Nat), q < Y.2.2.2.2.2.1 → va_up f Y.2.2.2.2.2.1 x q = f q := fun f x q hq => by unfold va_up; rw [if_neg (by omega)]
  have upN : ∀ {α : Type} (f : Nat → α) (x : α) (q : Nat), q < N.2.2.2.2.2.1 → va_up f N.2.2.2.2.2.1 x q = f q := fun f x q hq => by unfold va_up; rw [if_neg (by omega)]
  have cP : ∀ n, n ≤ Y.2.2.2.2.2.1 → cnt (pAll (dY Y km w)) n = cnt (pAll Y) n := fun n hn => cnt_congr fun q hq => by
    show decide (va_up Y.2.1 Y.2.2.2.2.2.1 km q = 3) = decide (Y.2.1 q = 3)
    rw [up _ _ q (by omega)]
  have cV : ∀ b n, n ≤ Y.2.2.2.2.2.1 → cnt (vIn (dY Y km w) b) n = cnt (vIn Y b) n := fun b n hn => cnt_congr fun q hq => by
    show (decide (va_up Y.2.2.1 Y.2.2.2.2.2.1 _ q = b) && decide (va_up Y.2.1 Y.2.2.2.2.2.1 km q ≠ 3)) = (decide (Y.2.2.1 q = b) && decide (Y.2.1 q ≠ 3))
    rw [up _ _ q (by omega), up _ _ q (by omega)]
  -- the parts that do not ask for k
  have A1 : ∀ N' : Nm, N'.1 = va_up N.1 N.2.2.2.2.2.1 w → N'.2.1 = va_up N.2.1 N.2.2.2.2.2.1 k → N'.2.2.1 = va_up N.2.2.1 N.2.2.2.2.2.1 N.2.2.2.2.2.2.1 → N'.2.2.2.2.2.1 = N.2.2.2.2.2.1 + 1 → N'.2.2.2.2.2.2.1 = N.2.2.2.2.2.2.1 →
      (∀ i, i < N.2.2.2.2.2.1 → N'.2.2.2.1 i = N.2.2.2.1 i) → (k = 2 → N'.2.2.2.1 N.2.2.2.2.2.1 = N.2.2.2.2.2.2.2.2) → (k ≠ 2 → N'.2.2.2.1 N.2.2.2.2.2.1 = N.2.2.2.2.1 N.2.2.2.2.2.2.1) →
      (N'.2.2.2.2.2.2.2.1 = (if km = 3 then N.2.2.2.2.2.2.2.1 else N.2.2.2.2.2.2.2.1 + 1)) → (N'.2.2.2.2.2.2.2.2 = (if km = 3 then N.2.2.2.2.2.2.2.2 + 1 else N.2.2.2.2.2.2.2.2)) →
      (∀ l, l ≤ N.2.2.2.2.2.2.1 → N'.2.2.2.2.1 l = N.2.2.2.2.1 l + (if km = 3 then 0 else if l = N.2.2.2.2.2.2.1 then 1 else 0)) → NR N' (va_up σ N.2.2.2.2.2.1 Y.2.2.2.2.2.1) bl (dY Y km w) := by
    intro N' e1 e2 e3 e4 e5 e6 e7 e8 e9 e10 e11
    have hvs : (dY Y km w).2.2.2.2.2.1 = Y.2.2.2.2.2.1 + 1 := rfl
    have hK' : NK N' (va_up σ N.2.2.2.2.2.1 Y.2.2.2.2.2.1) bl (dY Y km w) := by
      intro i hi
      rw [e4] at hi
      rcases Nat.lt_or_ge i N.2.2.2.2.2.1 with hi2 | hi2
      · have q := hK i hi2
        rw [upN σ _ i hi2, e1, e2, e3, e6 i hi2, upN _ _ i hi2, upN _ _ i hi2, upN _ _ i hi2]
        refine ⟨by rw [hvs]; have := q.1; omega, ?_, ?_, ?_, fun z => ?_, fun z => ?_⟩
        · show va_up Y.1 _ w (σ i) = _; rw [up _ _ _ q.1]; exact q.2.1
        · show va_up Y.2.2.1 _ _ (σ i) = _; rw [up _ _ _ q.1]; exact q.2.2.1
        · show sr _ (va_up Y.2.1 _ km (σ i)); rw [up _ _ _ q.1]; exact q.2.2.2.1
        · rw [cP _ (Nat.le_of_lt q.1)]; exact q.2.2.2.2.1 z
        · rw [cV _ _ (Nat.le_of_lt q.1)]; exact q.2.2.2.2.2 z
      · have : i = N.2.2.2.2.2.1 := by omega
        subst this
        rw [va_same, e1, e2, e3, va_same, va_same, va_same]
        refine ⟨by rw [hvs]; omega, ?_, ?_, ?_, fun z => ?_, fun z => ?_⟩
        · exact va_same _ _ _
        · show va_up Y.2.2.1 _ _ Y.2.2.2.2.2.1 = _; rw [va_same, hblk]
        · show sr k (va_up Y.2.1 _ km Y.2.2.2.2.2.1); rw [va_same]; exact hs
        · rw [cP _ (Nat.le_refl _), e7 z, hcp]
        · rw [cV _ _ (Nat.le_refl _), e8 z]; exact hslots _ (Nat.le_refl _)
    refine ⟨⟨?_, ?_, ?_⟩, ⟨?_, ?_, hb7⟩, ?_, hK', ?_, ?_, ?_, ?_, ?_, ?_⟩
    · rw [e9, ← hv]; rfl
    · rw [e10, ← hp]; rfl
    · rw [hvs, hsy, e9, e10]; split <;> omega
    · rw [e5]; exact hblk
    · rw [e5]; exact hbb
    · refine ⟨hB.1, hB.2.1, fun l hl => ?_⟩
      rw [e5] at hl
      exact hB.2.2 l hl
    · intro i j hij hj
      rw [e4] at hj
      rw [upN σ _ i (by omega)]
      rcases Nat.lt_or_ge j N.2.2.2.2.2.1 with hj2 | hj2
      · rw [upN σ _ j hj2]; exact hmono i j hij hj2
      · have : j = N.2.2.2.2.2.1 := by omega
        subst this
        rw [va_same]
        exact (hK i hij).1
    · intro s l hs1 hl hh
      rw [e5] at hl
      rw [hvs] at hs1
      rw [e4]
      rcases Nat.lt_or_ge s Y.2.2.2.2.2.1 with hs2 | hs2
      · have hh2 : Y.2.2.1 s = bl l := by rw [← hh]; exact (up _ _ s hs2).symm
        obtain ⟨i, hi, e⟩ := hcomp s l hs2 hl hh2
        exact ⟨i, by omega, by rw [upN σ _ i hi]; exact e⟩
      · exact ⟨N.2.2.2.2.2.1, by omega, by rw [va_same]; omega⟩
    · intro i j hi hj hl hw
      rw [e4] at hi hj
      rw [e3] at hl
      rw [e1] at hw
      have new : ∀ i, i < N.2.2.2.2.2.1 → N.2.2.1 i = N.2.2.2.2.2.2.1 → N.1 i = w → False := by
        intro i hi h1 h2
        have q := hK i hi
        exact htw ⟨σ i, q.1, by rw [q.2.2.1, h1, hblk], by rw [q.2.1, h2]⟩
      rcases Nat.lt_or_ge i N.2.2.2.2.2.1 with hi2 | hi2
      · rcases Nat.lt_or_ge j N.2.2.2.2.2.1 with hj2 | hj2
        · rw [upN _ _ i hi2, upN _ _ j hj2] at hl
          rw [upN _ _ i hi2, upN _ _ j hj2] at hw
          exact huni i j hi2 hj2 hl hw
        · have : j = N.2.2.2.2.2.1 := by omega
          subst this
          rw [upN _ _ i hi2, va_same] at hl
          rw [upN _ _ i hi2, va_same] at hw
          exact absurd (new i hi2 hl hw) id
      · have : i = N.2.2.2.2.2.1 := by omega
        subst this
        rcases Nat.lt_or_ge j N.2.2.2.2.2.1 with hj2 | hj2
        · rw [upN _ _ j hj2, va_same] at hl
          rw [upN _ _ j hj2, va_same] at hw
          exact absurd (new j hj2 hl.symm hw.symm) id
        · omega
    · intro l hl
      rw [e5] at hl
      rw [e11 l hl, hvs]
      show _ = cnt (vIn (dY Y km w) (bl l)) Y.2.2.2.2.2.1 + _
      rw [cV _ _ (Nat.le_refl _), ← hslots l hl]
      have e : vIn (dY Y km w) (bl l) Y.2.2.2.2.2.1 = (decide (Y.2.2.2.2.2.2.2.2.2.2.2 = bl l) && decide (km ≠ 3)) := by
        show (decide (va_up Y.2.2.1 Y.2.2.2.2.2.1 _ Y.2.2.2.2.2.1 = bl l) && decide (va_up Y.2.1 Y.2.2.2.2.2.1 km Y.2.2.2.2.2.1 ≠ 3)) = _
        rw [va_same, va_same]
      rw [e, hblk]
      by_cases h3 : km = 3
      · simp [h3]
      · by_cases hll : l = N.2.2.2.2.2.2.1
        · simp [h3, hll]
        · have : ¬ bl N.2.2.2.2.2.2.1 = bl l := fun q => hll (hB.inj hl (Nat.le_refl _) q.symm)
          simp [h3, hll, this]
    · intro s hs1
      rw [hvs] at hs1
      rcases Nat.lt_or_ge s Y.2.2.2.2.2.1 with hs2 | hs2
      · show va_up Y.2.2.1 _ _ s < _ ∧ va_up Y.2.1 _ _ s ≤ 3
        rw [up _ _ s hs2, up _ _ s hs2]
        exact hhome s hs2
      · have : s = Y.2.2.2.2.2.1 := by omega
        subst this
        show va_up Y.2.2.1 _ _ _ < _ ∧ va_up Y.2.1 _ _ _ ≤ 3
        rw [va_same, va_same, hblk]
        exact ⟨hbb, by rcases hs with q | q | q <;> omega⟩
    · rw [hvs, e10]
      show cnt (pAll (dY Y km w)) Y.2.2.2.2.2.1 + _ = _
      rw [cP _ (Nat.le_refl _), hcp]
      have e : pAll (dY Y km w) Y.2.2.2.2.2.1 = decide (km = 3) := by
        show decide (va_up Y.2.1 Y.2.2.2.2.2.1 km Y.2.2.2.2.2.1 = 3) = _
        rw [va_same]
      rw [e]
      by_cases h3 : km = 3 <;> simp [h3]
  have hkm : k = 2 ↔ km = 3 := by rcases hs with q | q | q <;> omega
  unfold nm_add
  by_cases h2 : k = 2
  · rw [if_pos h2]
    have h3 := hkm.mp h2
    exact A1 _ rfl rfl rfl rfl rfl (fun i hi => upN _ _ i hi) (fun _ => va_same _ _ _) (fun q => absurd h2 q) (by rw [if_pos h3]) (by rw [if_pos h3]) (fun l _ => by rw [if_pos h3]; rfl)
  · rw [if_neg h2]
    have h3 : ¬ km = 3 := fun q => h2 (hkm.mpr q)
    refine A1 _ rfl rfl rfl rfl rfl (fun i hi => upN _ _ i hi) (fun q => absurd q h2) (fun _ => va_same _ _ _) (by rw [if_neg h3]) (by rw [if_neg h3]) (fun l hl => ?_)
    rw [if_neg h3]
    show va_up N.2.2.2.2.1 N.2.2.2.2.2.2.1 _ l = _
    unfold va_up
    by_cases hll : l = N.2.2.2.2.2.2.1
    · rw [if_pos hll, if_pos hll, hll]
    · rw [if_neg hll, if_neg hll]; rfl
end DN
