/-! ===== the text's words and numbers ===== -/
theorem tk_eqs_congr {f g : Nat → Nat} {p q k : Nat} : ∀ (n j : Nat), (∀ i, i < j + n → f (p + i) = g (q + i)) → tk_eqs f p k n j = tk_eqs g q k n j := by
  intro n
  induction n with
  | zero => intro j h; rfl
  | succ n ih =>
    intro j h
    unfold tk_eqs
    rw [h j (by omega), ih (j + 1) (fun i hi => h i (by omega))]
theorem tk_sp_congr {f g : Nat → Nat} {p q E E' : Nat} (hE : E - p = E' - q) (h : ∀ i, i < E - p → f (p + i) = g (q + i)) (k : Nat) : tk_sp f E p k = tk_sp g E' q k := by
  unfold tk_sp
  rw [hE]
  split
  · rename_i hl
    exact tk_eqs_congr _ _ (fun i hi => h i (by omega))
  · rfl
theorem tk_find_congr {f g : Nat → Nat} {p q E E' : Nat} (h : ∀ k, tk_sp f E p k = tk_sp g E' q k) : ∀ (n i : Nat), tk_find f E p n i = tk_find g E' q n i := by
  intro n
  induction n with
  | zero => intro i; rfl
  | succ n ih => intro i; unfold tk_find; rw [h i, ih]
/-- one sign -/
def sg1 (c : Nat) : Nat := (tk_find (fun _ => c) 1 0 29 0).getD 27
def sg2 (d : Nat) : Nat := (tk_find (fun j => if j = 0 then 58 else d) 2 0 29 0).getD 27
theorem sg1_ok : ∀ c, c < 128 → isL c = false → isD c = false → kap (sg1 c) = (if isS c then c else 99) ∧ sg1 c < 28 ∧ sg1 c ≠ 25 ∧ sg1 c ≠ 26 := by decide +kernel
theorem sg2_ok : ∀ d, d < 128 → sg2 d = (if d = 61 then 10 else 27) := by decide +kernel
theorem sg1_eq {f : Nat → Nat} {p : Nat} : (tk_find f (p + 1) p 29 0).getD 27 = sg1 (f p) := by
  unfold sg1
  rw [tk_find_congr (fun k => tk_sp_congr (g := fun _ => f p) (q := 0) (E' := 1) (by omega) (by
    intro i hi
    have : i = 0 := by omega
    subst this; rfl) k)]
theorem sg2_eq {f : Nat → Nat} {p : Nat} (h : f p = 58) : (tk_find f (p + 2) p 29 0).getD 27 = sg2 (f (p + 1)) := by
  unfold sg2
  rw [tk_find_congr (fun k => tk_sp_congr (g := fun j => if j = 0 then 58 else f (p + 1)) (q := 0) (E' := 2) (by omega) (by
    intro i hi
    rcases (by omega : i = 0 ∨ i = 1) with e | e
    · subst e; exact h
    · subst e; rfl) k)]
/-- the words packed -/
def pk (k : Nat) : Nat := [7758194, 1886547811, 422608071022, 6647396, 26982, 1952998766, 1701606245, 512852847717, 25711, 513020621925].getD k 0
def wkn (n : Nat) : Nat := if n = 7758194 then 3 else if n = 1886547811 then 4 else if n = 422608071022 then 5 else if n = 6647396 then 6 else if n = 26982 then 7 else if n = 1952998766 then 8 else if n = 1701606245 then 9 else if n = 512852847717 then 10 else if n = 25711 then 11 else if n = 513020621925 then 12 else 1
theorem lN_inj {a b : Nat} (ha : a < 2 ^ 63) (hb : b < 2 ^ 63) : lN a = lN b ↔ a = b := by
  refine ⟨fun h => ?_, fun h => by rw [h]⟩
  have h1 : (lN a).toBitVec.toNat = (lN b).toBitVec.toNat := by rw [h]
  have e : ∀ c, c < 2 ^ 63 → (lN c).toBitVec.toNat = c := by
    intro c hc
    show (BitVec.ofNat 64 c).toNat = c
    rw [BitVec.toNat_ofNat, Nat.mod_eq_of_lt (by omega)]
  rw [e a ha, e b hb] at h1
  exact h1
theorem wk_lN {n : Nat} (h : n < 2 ^ 63) : wk (lN n) = wkn n := by
  have e : ∀ c, c < 2 ^ 63 → (lN n = lN c ↔ n = c) := fun c hc => lN_inj h hc
  unfold wk wkn
  simp only [show (7758194 : Int64) = lN 7758194 from rfl, show (1886547811 : Int64) = lN 1886547811 from rfl, show (422608071022 : Int64) = lN 422608071022 from rfl, show (6647396 : Int64) = lN 6647396 from rfl, show (26982 : Int64) = lN 26982 from rfl, show (1952998766 : Int64) = lN 1952998766 from rfl, show (1701606245 : Int64) = lN 1701606245 from rfl, show (512852847717 : Int64) = lN 512852847717 from rfl, show (25711 : Int64) = lN 25711 from rfl, show (513020621925 : Int64) = lN 513020621925 from rfl,
    e 7758194 (by decide), e 1886547811 (by decide), e 422608071022 (by decide), e 6647396 (by decide), e 26982 (by decide), e 1952998766 (by decide), e 1701606245 (by decide), e 512852847717 (by decide), e 25711 (by decide), e 513020621925 (by decide)]
