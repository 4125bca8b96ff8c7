/-! ===== class and model between calls ===== -/
abbrev CST : Type := (Nat → Nat) × (Nat → Nat) × Pm × Int32 × Tk × Nm × Co × Co × Mc
def cwT (z : Zt) (a : Nat → Nat) (S : CST) : va_W := cw z a S.1 S.2.1 S.2.2.1 S.2.2.2.1 S.2.2.2.2.1 S.2.2.2.2.2.1 S.2.2.2.2.2.2.1 S.2.2.2.2.2.2.2.1 S.2.2.2.2.2.2.2.2
/-- the program that both hold -/
def PRG (D : Co) (X : MS) : Prop := D.2.2.2.2.2.2.2 < 2 ^ 31 ∧ ∃ T m Y μ ν, TkOk T m ∧ PG T m Y D μ ν ∧ RG T m Y μ ν X
def REL (S : CST) (X : MS) : Prop := TX S.2.2.1.1 S.2.2.1.2.1 X ∧ r_program X = S.2.2.1.2.2 ∧ r_fault X = S.2.2.2.1 ∧ NmOk S.2.2.2.2.2.1 ∧ (CoOk S.2.2.2.2.2.2.1 ∧ KO S.2.2.2.2.2.2.1) ∧ (CoOk S.2.2.2.2.2.2.2.1 ∧ KO S.2.2.2.2.2.2.2.1) ∧ McOk S.2.2.2.2.2.2.2.2 ∧ OBS S.2.2.2.2.2.2.2.2 X ∧ (S.2.2.1.2.2 = true → PRG S.2.2.2.2.2.2.2.1 X)
theorem RG.same {T : Tk} {m : Nat} {Y : MS2} {μ ν : Nat → Nat} {X X' : MS} (h : X'.2.2.2.1 = X.2.2.2.1) (g : RG T m Y μ ν X) : RG T m Y μ ν X' := by
  unfold RG RT r_pKind r_pWord r_pSort r_pHome r_pOwn r_pWants r_pBody r_pMeans r_pNext at g ⊢
  rw [h]
  exact g
theorem OBS.same {K : Mc} {X X' : MS} (h : X'.2.2.2.2.2.1 = X.2.2.2.2.2.1) (g : OBS K X) : OBS K X' := by
  unfold OBS r_written r_output r_lost r_steps r_greatest at g ⊢
  rw [h]
  exact g
theorem PRG.same {D : Co} {X X' : MS} (h : X'.2.2.2.1 = X.2.2.2.1) (g : PRG D X) : PRG D X' := by
  obtain ⟨g1, T, m, Y, μ, ν, g2, g3, g4⟩ := g
  exact ⟨g1, T, m, Y, μ, ν, g2, g3, g4.same h⟩
theorem TX.same {f : Nat → Nat} {L : Nat} {X X' : MS} (h1 : X'.1.2.1 = X.1.2.1) (h2 : X'.1.2.2.1 = X.1.2.2.1) (g : TX f L X) : TX f L X' := by
  unfold TX r_length r_text at g ⊢
  rw [h1, h2]
  exact g
theorem REL.same {S : CST} {X X' : MS} (h0 : X'.1.2 = X.1.2) (h3 : X'.2.2.2.1 = X.2.2.2.1) (h5 : X'.2.2.2.2.2.1 = X.2.2.2.2.2.1) (g : REL S X) : REL S X' := by
  obtain ⟨g1, g2, g3, g4, g5, g6, g7, g8, g9⟩ := g
  refine ⟨g1.same (by rw [h0]) (by rw [h0]), ?_, ?_, g4, g5, g6, g7, g8.same h5, fun h => (g9 h).same h3⟩
  · show X'.1.2.2.2.2 = _; rw [h0]; exact g2
  · show X'.1.2.2.2.1 = _; rw [h0]; exact g3
theorem pm_put_agree {v : Int64} : ∀ (k : Nat) (f g : Nat → Nat) (L : Nat), (∀ j, j < L → f j = g j) → ∀ j, j < L + k → pm_put v k f L j = pm_put v k g L j := by
  intro k
  induction k with
  | zero => intro f g L h j hj; exact h j hj
  | succ k ih =>
    intro f g L h j hj
    show pm_put v k (va_up f L (pm_byte v k)) (L + 1) j = pm_put v k (va_up g L (pm_byte v k)) (L + 1) j
    refine ih _ _ _ (fun i hi => ?_) j (by omega)
    unfold va_up
    split
    · rfl
    · exact h i (by omega)
theorem pm_ok_byte {v : Int64} : ∀ (n i : Nat), pm_ok v n i = true → ∀ j, i ≤ j → j < i + n → pm_byte v j ≤ 126 := by
  intro n
  induction n with
  | zero => intro i _ j h1 h2; omega
  | succ n ih =>
    intro i h j h1 h2
    unfold pm_ok at h
    split at h
    · rename_i hb
      rcases Nat.eq_or_lt_of_le h1 with e | e
      · rw [← e]; exact hb.2
      · exact ih (i + 1) h j (by omega) (by omega)
    · cases h
theorem pm_put_lt {v : Int64} : ∀ (k : Nat) (f : Nat → Nat) (L : Nat), (∀ j, f j < 128) → (∀ j, j < k → pm_byte v j ≤ 126) → ∀ j, pm_put v k f L j < 128 := by
  intro k
  induction k with
  | zero => intro f L h _ j; exact h j
  | succ k ih =>
    intro f L h hb j
    show pm_put v k (va_up f L (pm_byte v k)) (L + 1) j < 128
    refine ih _ _ (fun i => ?_) (fun i hi => hb i (by omega)) j
    unfold va_up
    split
    · have := hb k (by omega); omega
    · exact h i
/-- both answer alike -/
def BOTH (l : Launch) (zc zm : Zt) (a b : Nat → Nat) (o : Nat) (yL : MethodName) (bL : ByteArray) (nL : Nat) (hh : List (Nat × Nat × Nat × Nat)) (avL : List Value) (yM : MethodName) (bM : ByteArray) (nM : Nat) (avM : List Value) (S : CST) (X : MS) : Prop :=
  ∃ (k : Nat) (r : Int64) (v : Int32) (S' : CST) (X' : MS), k < 5 ∧ LC l zc 63 yL bL nL hh avL (cwT zc a S) o k r (cwT zc a S') ∧ XC l (Gz zm) 62 yM bM nM (some .int) avM (mw zm b X) (.inl (some (.int v))) (mw zm b X') ∧ r_thrown X' = k ∧ (k = 0 → r = v.toInt64) ∧ REL S' X'
