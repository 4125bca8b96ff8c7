/-! ===== Tokens ===== -/
def isL (c : Nat) : Bool := decide (97 ≤ c) && decide (c ≤ 122)
def isD (c : Nat) : Bool := decide (48 ≤ c) && decide (c ≤ 57)
def tk_skip (f : Nat → Nat) : Nat → Nat → Nat
  | 0, p => p
  | n + 1, p => if f p = 32 then tk_skip f n (p + 1) else p
def tk_eqs (f : Nat → Nat) (p k : Nat) : Nat → Nat → Bool
  | 0, _ => true
  | n + 1, j => if (spl k).getD j 0 = f (p + j) then tk_eqs f p k n (j + 1) else false
def tk_sp (f : Nat → Nat) (E p k : Nat) : Bool := if (spl k).length = E - p then tk_eqs f p k (spl k).length 0 else false
def tk_find (f : Nat → Nat) (E p : Nat) : Nat → Nat → Option Nat
  | 0, _ => none
  | n + 1, i => if tk_sp f E p i = true then some i else tk_find f E p n (i + 1)
def tk_word (f : Nat → Nat) : Nat → Nat → Int64 → Nat × Int64
  | 0, p, v => (p, v)
  | n + 1, p, v => if (isL (f p) || isD (f p)) = true then tk_word f n (p + 1) (v <<< ((nI 8).toInt64 &&& 63) ||| (nI (f p)).toInt64) else (p, v)
def tk_num (f : Nat → Nat) : Nat → Nat → Int64 → Nat × Int64
  | 0, p, v => (p, v)
  | n + 1, p, v => if isD (f p) = true then tk_num f n (p + 1) (v * 10 + (nI (f p - 48)).toInt64) else (p, v)
def tk_wK (f : Nat → Nat) (p q : Nat) : Nat := if q - p ≤ 6 then (tk_find f q p 29 0).getD 25 else 27
def tk_nK (p q : Nat) : Nat := if q - p ≤ 9 then 26 else 27
def tk_sE (f : Nat → Nat) (L p : Nat) : Nat := min L (p + if f p = 58 then 2 else 1)
def tk_sK (f : Nat → Nat) (L p : Nat) : Nat := (tk_find f (tk_sE f L p) p 29 0).getD 27
theorem tk_find_lt {f : Nat → Nat} {E p : Nat} : ∀ (n i k : Nat), tk_find f E p n i = some k → i ≤ k ∧ k < i + n := by
  intro n
  induction n with
  | zero => intro i k h; cases h
  | succ n ih =>
    intro i k h
    unfold tk_find at h
    split at h
    · cases h; omega
    · have := ih _ _ h; omega
theorem tk_find_lt29 {f : Nat → Nat} {E p d : Nat} (hd : d < 29) : (tk_find f E p 29 0).getD d < 29 := by
  cases h : tk_find f E p 29 0 with
  | none => exact hd
  | some k => have := tk_find_lt _ _ _ h; show k < 29; omega
theorem tk_wK_lt {f : Nat → Nat} {p q : Nat} : tk_wK f p q < 29 := by
  unfold tk_wK; split
  · exact tk_find_lt29 (by decide)
  · decide
theorem tk_nK_lt {p q : Nat} : tk_nK p q < 29 := by
  unfold tk_nK; split <;> decide
theorem tk_sK_lt {f : Nat → Nat} {L p : Nat} : tk_sK f L p < 29 := tk_find_lt29 (by decide)
theorem tk_skip_le {f : Nat → Nat} : ∀ n p, p ≤ tk_skip f n p ∧ tk_skip f n p ≤ p + n := by
  intro n
  induction n with
  | zero => intro p; exact ⟨Nat.le_refl _, Nat.le_refl _⟩
  | succ n ih =>
    intro p
    unfold tk_skip
    split
    · have := ih (p + 1); omega
    · omega
theorem tk_word_le {f : Nat → Nat} : ∀ n p v, p ≤ (tk_word f n p v).1 ∧ (tk_word f n p v).1 ≤ p + n := by
  intro n
  induction n with
  | zero => intro p v; exact ⟨Nat.le_refl _, Nat.le_refl _⟩
  | succ n ih =>
    intro p v
    unfold tk_word
    split
    · have := ih (p + 1) (v <<< ((nI 8).toInt64 &&& 63) ||| (nI (f p)).toInt64); omega
    · constructor <;> dsimp only <;> omega
theorem tk_num_le {f : Nat → Nat} : ∀ n p v, p ≤ (tk_num f n p v).1 ∧ (tk_num f n p v).1 ≤ p + n := by
  intro n
  induction n with
  | zero => intro p v; exact ⟨Nat.le_refl _, Nat.le_refl _⟩
  | succ n ih =>
    intro p v
    unfold tk_num
    split
    · have := ih (p + 1) (v * 10 + (nI (f p - 48)).toInt64); omega
    · constructor <;> dsimp only <;> omega
set_option maxHeartbeats 4000000 in
set_option maxRecDepth 100000 in
theorem c_Tk_isLetter {l : Launch} {z : Zt} {a u w : Nat → Nat} {P : Pm} {F : Int32} {T : Tk} {N : Nm} {C D : Co} {M : Mc} (h : Nat) {x : Nat} (hx : x < 2 ^ 31) : XC l (Gz z) (h) y_Tk_isLetter b_Tk_isLetter 1 (some .boolean) [.int (nI x)] (cw z a u w P F T N C D M) (.inl (some (.int (bI (isL x))))) (cw z a u w P F T N C D M) := by
  refine XC.ofV (by decide +kernel) rfl ?_
  intro p e s m below meth c X hnm
  refine V.lvs (lv' := [(0, .int (nI x))]) rfl ?_
  refine V.iload_n X d_Tk_isLetter_0 rfl ?_
  refine V.bipush (v := nI 97) X d_Tk_isLetter_1 (by decide +kernel) ?_
  refine V.cmpN_lt (tgt := 16) X d_Tk_isLetter_3 (by decide) (by first | omega | (dsimp only; omega) | (simp only [] at *; omega)) (by first | omega | (dsimp only; omega) | (simp only [] at *; omega)) (fun h3 => ?_) (fun h3 => ?_)
  · refine V.iconst (v := nI 0) X d_Tk_isLetter_16 (by decide +kernel) ?_
    exact V.zret X d_Tk_isLetter_17 (by first | exact Or.inl rfl | exact Or.inr rfl | (unfold bI; split; exact Or.inr rfl; exact Or.inl rfl)) (by simp [bI, isL]; omega) rfl
  · refine V.iload_n X d_Tk_isLetter_6 rfl ?_
    refine V.bipush (v := nI 122) X d_Tk_isLetter_7 (by decide +kernel) ?_
    refine V.cmpN_gt (tgt := 16) X d_Tk_isLetter_9 (by decide) (by first | omega | (dsimp only; omega) | (simp only [] at *; omega)) (by first | omega | (dsimp only; omega) | (simp only [] at *; omega)) (fun h9 => ?_) (fun h9 => ?_)
    · refine V.iconst (v := nI 0) X d_Tk_isLetter_16 (by decide +kernel) ?_
      exact V.zret X d_Tk_isLetter_17 (by first | exact Or.inl rfl | exact Or.inr rfl | (unfold bI; split; exact Or.inr rfl; exact Or.inl rfl)) (by simp [bI, isL]; omega) rfl
    · refine V.iconst (v := nI 1) X d_Tk_isLetter_12 (by decide +kernel) ?_
      refine V.goto (tgt := 17) X d_Tk_isLetter_13 (by decide) ?_
      exact V.zret X d_Tk_isLetter_17 (by first | exact Or.inl rfl | exact Or.inr rfl | (unfold bI; split; exact Or.inr rfl; exact Or.inl rfl)) (by simp [bI, isL]; omega) rfl
set_option maxHeartbeats 4000000 in
set_option maxRecDepth 100000 in
theorem c_Tk_isDigit {l : Launch} {z : Zt} {a u w : Nat → Nat} {P : Pm} {F : Int32} {T : Tk} {N : Nm} {C D : Co} {M : Mc} (h : Nat) {x : Nat} (hx : x < 2 ^ 31) : XC l (Gz z) (h) y_Tk_isDigit b_Tk_isDigit 1 (some .boolean) [.int (nI x)] (cw z a u w P F T N C D M) (.inl (some (.int (bI (isD x))))) (cw z a u w P F T N C D M) := by
  refine XC.ofV (by decide +kernel) rfl ?_
  intro p e s m below meth c X hnm
  refine V.lvs (lv' := [(0, .int (nI x))]) rfl ?_
  refine V.iload_n X d_Tk_isDigit_0 rfl ?_
  refine V.bipush (v := nI 48) X d_Tk_isDigit_1 (by decide +kernel) ?_
  refine V.cmpN_lt (tgt := 16) X d_Tk_isDigit_3 (by decide) (by first | omega | (dsimp only; omega) | (simp only [] at *; omega)) (by first | omega | (dsimp only; omega) | (simp only [] at *; omega)) (fun h3 => ?_) (fun h3 => ?_)
  · refine V.iconst (v := nI 0) X d_Tk_isDigit_16 (by decide +kernel) ?_
    exact V.zret X d_Tk_isDigit_17 (by first | exact Or.inl rfl | exact Or.inr rfl | (unfold bI; split; exact Or.inr rfl; exact Or.inl rfl)) (by simp [bI, isD]; omega) rfl
  · refine V.iload_n X d_Tk_isDigit_6 rfl ?_
    refine V.bipush (v := nI 57) X d_Tk_isDigit_7 (by decide +kernel) ?_
    refine V.cmpN_gt (tgt := 16) X d_Tk_isDigit_9 (by decide) (by first | omega | (dsimp only; omega) | (simp only [] at *; omega)) (by first | omega | (dsimp only; omega) | (simp only [] at *; omega)) (fun h9 => ?_) (fun h9 => ?_)
    · refine V.iconst (v := nI 0) X d_Tk_isDigit_16 (by decide +kernel) ?_
      exact V.zret X d_Tk_isDigit_17 (by first | exact Or.inl rfl | exact Or.inr rfl | (unfold bI; split; exact Or.inr rfl; exact Or.inl rfl)) (by simp [bI, isD]; omega) rfl
    · refine V.iconst (v := nI 1) X d_Tk_isDigit_12 (by decide +kernel) ?_
      refine V.goto (tgt := 17) X d_Tk_isDigit_13 (by decide) ?_
      exact V.zret X d_Tk_isDigit_17 (by first | exact Or.inl rfl | exact Or.inr rfl | (unfold bI; split; exact Or.inr rfl; exact Or.inl rfl)) (by simp [bI, isD]; omega) rfl
set_option maxHeartbeats 4000000 in
set_option maxRecDepth 100000 in
theorem c_Tk_behindBlanks {l : Launch} {z : Zt} {a u w : Nat → Nat} {P : Pm} {F : Int32} {N : Nm} {C D : Co} {M : Mc} (h : Nat) {K : Nat → Option Nat} {Pl : Nat → Nat} {Ct : Nat → Int64} {L E cu : Nat} (hE : E ≤ L) (hL : L ≤ 300) (hP : ∀ j, P.1 j < 2 ^ 16) : XC l (Gz z) (h) y_Tk_behindBlanks b_Tk_behindBlanks 2 (some .int) [.ref (a 3)] (cw z a u w P F (K, Pl, Ct, a 1, L, E, cu) N C D M) (.inl (some (.int (nI (tk_skip P.1 (L - E) E))))) (cw z a u w P F (K, Pl, Ct, a 1, L, E, cu) N C D M) := by
  refine XC.ofV (by decide +kernel) rfl ?_
  intro p e s m below meth c X hnm
  refine V.lvs (lv' := [(0, .ref (a 3))]) rfl ?_
  refine V.aload_n X d_Tk_behindBlanks_0 rfl ?_
  refine g_Tk_end X k_Tk_33 d_Tk_behindBlanks_1 ?_
  refine V.istore_n (lv' := [(0, _), (1, _)]) X d_Tk_behindBlanks_4 (by decide) rfl ?_
  suffices loop5 : ∀ n q : Nat, q + n = L → V p l e (Rm (h)) s m ([.ref (a 3)] : List Value).toArray below meth c (Gz z) 2 0 0 (XE below (Gz z) (.inl (some (.int (nI (tk_skip P.1 n q))))) (cw z a u w P F (K, Pl, Ct, a 1, L, E, cu) N C D M) ([.ref (a 3)] : List Value).toArray s) (cw z a u w P F (K, Pl, Ct, a 1, L, E, cu) N C D M) 5 [(0, .ref (a 3)), (1, .int (nI q))] [] from loop5 (L - E) E (by omega)
  intro n
  induction n with
  | zero =>
    intro q hq
    refine V.iload_n X d_Tk_behindBlanks_5 rfl ?_
    refine V.aload_n X d_Tk_behindBlanks_6 rfl ?_
    refine g_Tk_length X k_Tk_29 d_Tk_behindBlanks_7 ?_
    refine V.cmpN_ge (tgt := 30) X d_Tk_behindBlanks_10 (by decide) (by first | omega | (dsimp only; omega) | (simp only [] at *; omega)) (by first | omega | (dsimp only; omega) | (simp only [] at *; omega)) (fun h10 => ?_) (fun h10 => absurd h10 (by first | omega | (dsimp only; omega) | (simp only [] at *; omega)))
    refine V.iload_n X d_Tk_behindBlanks_30 rfl ?_
    exact V.iret X d_Tk_behindBlanks_31 rfl rfl
  | succ n ih =>
    intro q hq
    have hPq := hP q
    refine V.iload_n X d_Tk_behindBlanks_5 rfl ?_
    refine V.aload_n X d_Tk_behindBlanks_6 rfl ?_
    refine g_Tk_length X k_Tk_29 d_Tk_behindBlanks_7 ?_
    refine V.cmpN_ge (tgt := 30) X d_Tk_behindBlanks_10 (by decide) (by first | omega | (dsimp only; omega) | (simp only [] at *; omega)) (by first | omega | (dsimp only; omega) | (simp only [] at *; omega)) (fun h10 => absurd h10 (by first | omega | (dsimp only; omega) | (simp only [] at *; omega))) (fun h10 => ?_)
    refine V.aload_n X d_Tk_behindBlanks_13 rfl ?_
    refine g_Tk_text X k_Tk_25 d_Tk_behindBlanks_14 ?_
    refine V.iload_n X d_Tk_behindBlanks_17 rfl ?_
    refine l_PM_text X (by first | omega | (dsimp only; omega) | (simp only [] at *; omega)) d_Tk_behindBlanks_18 ?_
    refine V.bipush (v := nI 32) X d_Tk_behindBlanks_19 (by decide +kernel) ?_
    refine V.cmpN_ne (tgt := 30) X d_Tk_behindBlanks_21 (by decide) (by first | omega | (dsimp only; omega) | (simp only [] at *; omega)) (by first | omega | (dsimp only; omega) | (simp only [] at *; omega)) (fun h21 => ?_) (fun h21 => ?_)
    · rw [show tk_skip P.1 (n + 1) q = q from if_neg h21]
      refine V.iload_n X d_Tk_behindBlanks_30 rfl ?_
      exact V.iret X d_Tk_behindBlanks_31 rfl rfl
    · rw [show tk_skip P.1 (n + 1) q = tk_skip P.1 n (q + 1) from if_pos h21]
      refine V.iinc (lv' := [(0, _), (1, _)]) X d_Tk_behindBlanks_24 rfl (show _ + nI 1 = _ from nI_add _ 1) (by decide) rfl ?_
      refine V.goto (tgt := 5) X d_Tk_behindBlanks_27 (by decide) ?_
      exact ih _ (by omega)
set_option maxHeartbeats 4000000 in
set_option maxRecDepth 100000 in
theorem c_Tk_isSpelled {l : Launch} {z : Zt} {a u w : Nat → Nat} {P : Pm} {F : Int32} {N : Nm} {C D : Co} {M : Mc} (h : Nat) {K : Nat → Option Nat} {Pl : Nat → Nat} {Ct : Nat → Int64} {L E cu : Nat} {q k : Nat} (hk : k < 29) (hq : q ≤ E) (hE : E ≤ 300) (hP : ∀ j, P.1 j < 2 ^ 16) : XC l (Gz z) (h + 5) y_Tk_isSpelled b_Tk_isSpelled 4 (some .boolean) [.ref (a 3), .int (nI q), .ref (sa z k)] (cw z a u w P F (K, Pl, Ct, a 1, L, E, cu) N C D M) (.inl (some (.int (bI (tk_sp P.1 E q k))))) (cw z a u w P F (K, Pl, Ct, a 1, L, E, cu) N C D M) := by
  obtain ⟨hs1, hs2⟩ := spl_small k hk
  refine XC.ofV (by decide +kernel) rfl ?_
  intro p e s m below meth c X hnm
  refine V.lvs (lv' := [(0, .ref (a 3)), (1, .int (nI q)), (2, .ref (sa z k))]) rfl ?_
  refine V.aload_n X d_Tk_isSpelled_0 rfl ?_
  refine V.callK X (c_JS_length (h + 3) hk) Y_JS_length k_Tk_100 (kO_str X hk) rfl rfl rfl (Rok.lt (by omega)) d_Tk_isSpelled_1 ?_
  refine V.aload_n X d_Tk_isSpelled_4 rfl ?_
  refine g_Tk_end X k_Tk_33 d_Tk_isSpelled_5 ?_
  refine V.iload_n X d_Tk_isSpelled_8 rfl ?_
  refine V.isub X d_Tk_isSpelled_9 (pk_sub (by first | omega | (dsimp only; omega) | (simp only [] at *; omega))) ?_
  refine V.cmpN_eq (tgt := 15) X d_Tk_isSpelled_10 (by decide) (by first | omega | (dsimp only; omega) | (simp only [] at *; omega)) (by first | omega | (dsimp only; omega) | (simp only [] at *; omega)) (fun h10 => ?_) (fun h10 => ?_)
  · rw [show tk_sp P.1 E q k = tk_eqs P.1 q k (spl k).length 0 from if_pos h10]
    refine V.iconst (v := nI 0) X d_Tk_isSpelled_15 (by decide +kernel) ?_
    refine V.istore_n (lv' := [(0, _), (1, _), (2, _), (3, _)]) X d_Tk_isSpelled_16 (by decide) rfl ?_
    suffices loop17 : ∀ n j : Nat, j + n = (spl k).length → V p l e (Rm (h + 5)) s m ([.ref (a 3), .int (nI q), .ref (sa z k)] : List Value).toArray below meth c (Gz z) 4 0 0 (XE below (Gz z) (.inl (some (.int (bI (tk_eqs P.1 q k n j))))) (cw z a u w P F (K, Pl, Ct, a 1, L, E, cu) N C D M) ([.ref (a 3), .int (nI q), .ref (sa z k)] : List Value).toArray s) (cw z a u w P F (K, Pl, Ct, a 1, L, E, cu) N C D M) 17 [(0, .ref (a 3)), (1, .int (nI q)), (2, .ref (sa z k)), (3, .int (nI j))] [] from loop17 _ 0 (Nat.zero_add _)
    intro n
    induction n with
    | zero =>
      intro j hj
      refine V.iload_n X d_Tk_isSpelled_17 rfl ?_
      refine V.aload_n X d_Tk_isSpelled_18 rfl ?_
      refine V.callK X (c_JS_length (h + 3) hk) Y_JS_length k_Tk_100 (kO_str X hk) rfl rfl rfl (Rok.lt (by omega)) d_Tk_isSpelled_19 ?_
      refine V.cmpN_ge (tgt := 49) X d_Tk_isSpelled_22 (by decide) (by first | omega | (dsimp only; omega) | (simp only [] at *; omega)) (by first | omega | (dsimp only; omega) | (simp only [] at *; omega)) (fun h22 => ?_) (fun h22 => absurd h22 (by first | omega | (dsimp only; omega) | (simp only [] at *; omega)))
      refine V.iconst (v := nI 1) X d_Tk_isSpelled_49 (by decide +kernel) ?_
      exact V.zret X d_Tk_isSpelled_50 (by first | exact Or.inl rfl | exact Or.inr rfl | (unfold bI; split; exact Or.inr rfl; exact Or.inl rfl)) rfl rfl
    | succ n ih =>
      intro j hj
      have hPq := hP (q + j)
      have hsj := hs2 j (by omega)
      refine V.iload_n X d_Tk_isSpelled_17 rfl ?_
      refine V.aload_n X d_Tk_isSpelled_18 rfl ?_
      refine V.callK X (c_JS_length (h + 3) hk) Y_JS_length k_Tk_100 (kO_str X hk) rfl rfl rfl (Rok.lt (by omega)) d_Tk_isSpelled_19 ?_
      refine V.cmpN_ge (tgt := 49) X d_Tk_isSpelled_22 (by decide) (by first | omega | (dsimp only; omega) | (simp only [] at *; omega)) (by first | omega | (dsimp only; omega) | (simp only [] at *; omega)) (fun h22 => absurd h22 (by first | omega | (dsimp only; omega) | (simp only [] at *; omega))) (fun h22 => ?_)
      refine V.aload_n X d_Tk_isSpelled_25 rfl ?_
      refine V.iload_n X d_Tk_isSpelled_26 rfl ?_
      refine V.callK X (c_JS_charAt (h + 1) hk (j := j) (by omega)) Y_JS_charAt k_Tk_104 (kO_str X hk) rfl rfl rfl (Rok.lt (by omega)) d_Tk_isSpelled_27 ?_
      refine V.aload_n X d_Tk_isSpelled_30 rfl ?_
      refine g_Tk_text X k_Tk_25 d_Tk_isSpelled_31 ?_
      refine V.iload_n X d_Tk_isSpelled_34 rfl ?_
      refine V.iload_n X d_Tk_isSpelled_35 rfl ?_
      refine V.iadd X d_Tk_isSpelled_36 (nI_add _ _) ?_
      refine l_PM_text X (by first | omega | (dsimp only; omega) | (simp only [] at *; omega)) d_Tk_isSpelled_37 ?_
      refine V.cmpN_eq (tgt := 43) X d_Tk_isSpelled_38 (by decide) (by first | omega | (dsimp only; omega) | (simp only [] at *; omega)) (by first | omega | (dsimp only; omega) | (simp only [] at *; omega)) (fun h38 => ?_) (fun h38 => ?_)
      · rw [show tk_eqs P.1 q k (n + 1) j = tk_eqs P.1 q k n (j + 1) from if_pos h38]
        refine V.iinc (lv' := [(0, _), (1, _), (2, _), (3, _)]) X d_Tk_isSpelled_43 rfl (show _ + nI 1 = _ from nI_add _ 1) (by decide) rfl ?_
        refine V.goto (tgt := 17) X d_Tk_isSpelled_46 (by decide) ?_
        exact ih _ (by omega)
      · rw [show tk_eqs P.1 q k (n + 1) j = false from if_neg h38]
        refine V.iconst (v := nI 0) X d_Tk_isSpelled_41 (by decide +kernel) ?_
        exact V.zret X d_Tk_isSpelled_42 (by first | exact Or.inl rfl | exact Or.inr rfl | (unfold bI; split; exact Or.inr rfl; exact Or.inl rfl)) rfl rfl
  · rw [show tk_sp P.1 E q k = false from if_neg h10]
    refine V.iconst (v := nI 0) X d_Tk_isSpelled_13 (by decide +kernel) ?_
    exact V.zret X d_Tk_isSpelled_14 (by first | exact Or.inl rfl | exact Or.inr rfl | (unfold bI; split; exact Or.inr rfl; exact Or.inl rfl)) rfl rfl
set_option maxHeartbeats 4000000 in
set_option maxRecDepth 100000 in
theorem c_Tk_kindSpelled {l : Launch} {z : Zt} {a u w : Nat → Nat} {P : Pm} {F : Int32} {N : Nm} {C D : Co} {M : Mc} (h : Nat) {K : Nat → Option Nat} {Pl : Nat → Nat} {Ct : Nat → Int64} {L E cu : Nat} {q k : Nat} (hk : k < 29) (hq : q ≤ E) (hE : E ≤ 300) (hP : ∀ j, P.1 j < 2 ^ 16) : XC l (Gz z) (h + 6) y_Tk_kindSpelled b_Tk_kindSpelled 4 (some (.object "PascalMachine$Kind")) [.ref (a 3), .int (nI q), .ref (ek z k)] (cw z a u w P F (K, Pl, Ct, a 1, L, E, cu) N C D M) (.inl (some (.ref (ek z ((tk_find P.1 E q 29 0).getD k))))) (cw z a u w P F (K, Pl, Ct, a 1, L, E, cu) N C D M) := by
  refine XC.ofV (by decide +kernel) rfl ?_
  intro p e s m below meth c X hnm
  refine V.lvs (lv' := [(0, .ref (a 3)), (1, .int (nI q)), (2, .ref (ek z k))]) rfl ?_
  refine V.iconst (v := nI 0) X d_Tk_kindSpelled_0 (by decide +kernel) ?_
  refine V.istore_n (lv' := [(0, _), (1, _), (2, _), (3, _)]) X d_Tk_kindSpelled_1 (by decide) rfl ?_
  suffices loop2 : ∀ n i : Nat, i + n = 29 → V p l e (Rm (h + 6)) s m ([.ref (a 3), .int (nI q), .ref (ek z k)] : List Value).toArray below meth c (Gz z) 4 0 0 (XE below (Gz z) (.inl (some (.ref (ek z ((tk_find P.1 E q n i).getD k))))) (cw z a u w P F (K, Pl, Ct, a 1, L, E, cu) N C D M) ([.ref (a 3), .int (nI q), .ref (ek z k)] : List Value).toArray s) (cw z a u w P F (K, Pl, Ct, a 1, L, E, cu) N C D M) 2 [(0, .ref (a 3)), (1, .int (nI q)), (2, .ref (ek z k)), (3, .int (nI i))] [] from loop2 29 0 rfl
  intro n
  induction n with
  | zero =>
    intro i hi
    refine V.iload_n X d_Tk_kindSpelled_2 rfl ?_
    refine V.getKs X k_Tk_89 d_Tk_kindSpelled_3 ?_
    refine V.lenKs X d_Tk_kindSpelled_6 ?_
    refine V.cmpN_ge (tgt := 38) X d_Tk_kindSpelled_7 (by decide) (by first | omega | (dsimp only; omega) | (simp only [] at *; omega)) (by first | omega | (dsimp only; omega) | (simp only [] at *; omega)) (fun h7 => ?_) (fun h7 => absurd h7 (by omega))
    refine V.aload_n X d_Tk_kindSpelled_38 rfl ?_
    exact V.aret X d_Tk_kindSpelled_39 rfl rfl
  | succ n ih =>
    intro i hi
    have hi9 : i < 29 := by omega
    refine V.iload_n X d_Tk_kindSpelled_2 rfl ?_
    refine V.getKs X k_Tk_89 d_Tk_kindSpelled_3 ?_
    refine V.lenKs X d_Tk_kindSpelled_6 ?_
    refine V.cmpN_ge (tgt := 38) X d_Tk_kindSpelled_7 (by decide) (by first | omega | (dsimp only; omega) | (simp only [] at *; omega)) (by first | omega | (dsimp only; omega) | (simp only [] at *; omega)) (fun h7 => absurd h7 (by omega)) (fun h7 => ?_)
    refine V.aload_n X d_Tk_kindSpelled_10 rfl ?_
    refine V.iload_n X d_Tk_kindSpelled_11 rfl ?_
    refine V.getKs X k_Tk_89 d_Tk_kindSpelled_12 ?_
    refine V.iload_n X d_Tk_kindSpelled_15 rfl ?_
    refine V.ldKs X (by first | omega | (dsimp only; omega) | (simp only [] at *; omega)) d_Tk_kindSpelled_16 ?_
    refine V.getSp X (by assumption) k_Tk_92 d_Tk_kindSpelled_17 ?_
    refine V.callV1 X (c_Tk_isSpelled h (k := i) hi9 hq hE hP) Y_Tk_isSpelled k_Tk_96 3 rfl rfl rfl rfl rfl (Rok.lt (by omega)) d_Tk_kindSpelled_20 ?_
    refine V.ifB_eq (tgt := 32) X d_Tk_kindSpelled_23 (by decide) (fun h23 => ?_) (fun h23 => ?_)
    · rw [show tk_find P.1 E q (n + 1) i = tk_find P.1 E q n (i + 1) from if_neg (by rw [h23]; decide)]
      refine V.iinc (lv' := [(0, _), (1, _), (2, _), (3, _)]) X d_Tk_kindSpelled_32 rfl (show _ + nI 1 = _ from nI_add _ 1) (by decide) rfl ?_
      refine V.goto (tgt := 2) X d_Tk_kindSpelled_35 (by decide) ?_
      exact ih _ (by omega)
    · rw [show tk_find P.1 E q (n + 1) i = some i from if_pos h23]
      refine V.getKs X k_Tk_89 d_Tk_kindSpelled_26 ?_
      refine V.iload_n X d_Tk_kindSpelled_29 rfl ?_
      refine V.ldKs X (by first | omega | (dsimp only; omega) | (simp only [] at *; omega)) d_Tk_kindSpelled_30 ?_
      exact V.aret X d_Tk_kindSpelled_31 rfl rfl
set_option maxHeartbeats 4000000 in
set_option maxRecDepth 100000 in
theorem c_Tk_readWord {l : Launch} {z : Zt} {a u w : Nat → Nat} {P : Pm} {F : Int32} {N : Nm} {C D : Co} {M : Mc} (h : Nat) {K : Nat → Option Nat} {Pl : Nat → Nat} {Ct : Nat → Int64} {L E cu : Nat} {i p0 : Nat} (hi : i < 151) (hp : p0 ≤ L) (hL : L ≤ 300) (hP : ∀ j, P.1 j < 2 ^ 16) : XC l (Gz z) (h + 7) y_Tk_readWord b_Tk_readWord 5 (some (.object "PascalMachine$Kind")) [.ref (a 3), .int (nI i), .int (nI p0)] (cw z a u w P F (K, Pl, Ct, a 1, L, E, cu) N C D M) (.inl (some (.ref (ek z (tk_wK P.1 p0 (tk_word P.1 (L - p0) p0 (lN 0)).1))))) (cw z a u w P F (K, Pl, va_up Ct i (tk_word P.1 (L - p0) p0 (lN 0)).2, a 1, L, (tk_word P.1 (L - p0) p0 (lN 0)).1, cu) N C D M) := by
  refine XC.ofV (by decide +kernel) rfl ?_
  intro p e s m below meth c X hnm
  refine V.lvs (lv' := [(0, .ref (a 3)), (1, .int (nI i)), (2, .int (nI p0))]) rfl ?_
  refine V.lconst (v := lN 0) X d_Tk_readWord_0 (by decide +kernel) ?_
  refine V.lstore_n (lv' := [(0, _), (1, _), (2, _), (3, _)]) X d_Tk_readWord_1 (by decide) rfl ?_
  refine V.aload_n X d_Tk_readWord_2 rfl ?_
  refine V.iload_n X d_Tk_readWord_3 rfl ?_
  refine p_Tk_end X k_Tk_33 d_Tk_readWord_4 ?_
  suffices loop7 : ∀ (n q : Nat) (v : Int64), q + n = L → p0 ≤ q → V p l e (Rm (h + 7)) s m ([.ref (a 3), .int (nI i), .int (nI p0)] : List Value).toArray below meth c (Gz z) 5 0 0 (XE below (Gz z) (.inl (some (.ref (ek z (tk_wK P.1 p0 (tk_word P.1 n q v).1))))) (cw z a u w P F (K, Pl, va_up Ct i (tk_word P.1 n q v).2, a 1, L, (tk_word P.1 n q v).1, cu) N C D M) ([.ref (a 3), .int (nI i), .int (nI p0)] : List Value).toArray s) (cw z a u w P F (K, Pl, Ct, a 1, L, q, cu) N C D M) 7 [(0, .ref (a 3)), (1, .int (nI i)), (2, .int (nI p0)), (3, .long v)] [] from loop7 (L - p0) p0 (lN 0) (by omega) (Nat.le_refl _)
  intro n
  induction n with
  | zero =>
    intro q v hq hp0
    rw [show tk_word P.1 0 q v = (q, v) from rfl]
    refine V.aload_n X d_Tk_readWord_7 rfl ?_
    refine g_Tk_end X k_Tk_33 d_Tk_readWord_8 ?_
    refine V.aload_n X d_Tk_readWord_11 rfl ?_
    refine g_Tk_length X k_Tk_29 d_Tk_readWord_12 ?_
    refine V.cmpN_ge (tgt := 77) X d_Tk_readWord_15 (by decide) (by first | omega | (dsimp only; omega) | (simp only [] at *; omega)) (by first | omega | (dsimp only; omega) | (simp only [] at *; omega)) (fun h15 => ?_) (fun h15 => absurd h15 (by first | omega | (dsimp only; omega) | (simp only [] at *; omega)))
    refine V.aload_n X d_Tk_readWord_77 rfl ?_
    refine g_Tk_contents X k_Tk_21 d_Tk_readWord_78 ?_
    refine V.iload_n X d_Tk_readWord_81 rfl ?_
    refine V.lload_n X d_Tk_readWord_82 rfl ?_
    refine s_Tk_contents X (by first | omega | (dsimp only; omega) | (simp only [] at *; omega)) d_Tk_readWord_83 ?_
    refine V.aload_n X d_Tk_readWord_84 rfl ?_
    refine g_Tk_end X k_Tk_33 d_Tk_readWord_85 ?_
    refine V.iload_n X d_Tk_readWord_88 rfl ?_
    refine V.isub X d_Tk_readWord_89 (pk_sub (by first | omega | (dsimp only; omega) | (simp only [] at *; omega))) ?_
    refine V.bipush (v := nI 6) X d_Tk_readWord_90 (by decide +kernel) ?_
    refine V.cmpN_le (tgt := 101) X d_Tk_readWord_92 (by decide) (by first | omega | (dsimp only; omega) | (simp only [] at *; omega)) (by first | omega | (dsimp only; omega) | (simp only [] at *; omega)) (fun h92 => ?_) (fun h92 => ?_)
    · rw [show tk_wK P.1 p0 q = (tk_find P.1 q p0 29 0).getD 25 from if_pos h92]
      refine V.aload_n X d_Tk_readWord_101 rfl ?_
      refine V.iload_n X d_Tk_readWord_102 rfl ?_
      refine V.getK X 25 (by decide) k_Tk_71 d_Tk_readWord_103 ?_
      refine V.callV1 X (c_Tk_kindSpelled h (k := 25) (by decide) (by first | omega | (dsimp only at *; omega)) (by first | omega | (dsimp only at *; omega)) hP) Y_Tk_kindSpelled k_Tk_74 3 rfl rfl rfl rfl rfl (Rok.lt (by omega)) d_Tk_readWord_106 ?_
      exact V.aret X d_Tk_readWord_109 rfl rfl
    · rw [show tk_wK P.1 p0 q = 27 from if_neg (Nat.not_le.mpr h92)]
      refine V.getK X 27 (by decide) k_Tk_47 d_Tk_readWord_95 ?_
      refine V.goto (tgt := 109) X d_Tk_readWord_98 (by decide) ?_
      exact V.aret X d_Tk_readWord_109 rfl rfl
  | succ n ih =>
    intro q v hq hp0
    have hPq := hP q
    refine V.aload_n X d_Tk_readWord_7 rfl ?_
    refine g_Tk_end X k_Tk_33 d_Tk_readWord_8 ?_
    refine V.aload_n X d_Tk_readWord_11 rfl ?_
    refine g_Tk_length X k_Tk_29 d_Tk_readWord_12 ?_
    refine V.cmpN_ge (tgt := 77) X d_Tk_readWord_15 (by decide) (by first | omega | (dsimp only; omega) | (simp only [] at *; omega)) (by first | omega | (dsimp only; omega) | (simp only [] at *; omega)) (fun h15 => absurd h15 (by first | omega | (dsimp only; omega) | (simp only [] at *; omega))) (fun h15 => ?_)
    refine V.aload_n X d_Tk_readWord_18 rfl ?_
    refine g_Tk_text X k_Tk_25 d_Tk_readWord_19 ?_
    refine V.aload_n X d_Tk_readWord_22 rfl ?_
    refine g_Tk_end X k_Tk_33 d_Tk_readWord_23 ?_
    refine l_PM_text X (by first | omega | (dsimp only; omega) | (simp only [] at *; omega)) d_Tk_readWord_26 ?_
    refine V.callS1 X (c_Tk_isLetter (h + 1) (x := P.1 q) (by first | omega | (dsimp only at *; omega))) Y_Tk_isLetter k_Tk_54 rfl rfl rfl (Rok.lt (by omega)) d_Tk_readWord_27 ?_
    refine V.ifB_ne (tgt := 48) X d_Tk_readWord_30 (by decide) (fun h30 => ?_) (fun h30 => ?_)
    · rw [show tk_word P.1 (n + 1) q v = tk_word P.1 n (q + 1) (v <<< ((nI 8).toInt64 &&& 63) ||| (nI (P.1 q)).toInt64) from if_pos (by rw [h30]; rfl)]
      refine V.lload_n X d_Tk_readWord_48 rfl ?_
      refine V.bipush (v := nI 8) X d_Tk_readWord_49 (by decide +kernel) ?_
      refine V.lshl X d_Tk_readWord_51 rfl ?_
      refine V.aload_n X d_Tk_readWord_52 rfl ?_
      refine g_Tk_text X k_Tk_25 d_Tk_readWord_53 ?_
      refine V.aload_n X d_Tk_readWord_56 rfl ?_
      refine g_Tk_end X k_Tk_33 d_Tk_readWord_57 ?_
      refine l_PM_text X (by first | omega | (dsimp only; omega) | (simp only [] at *; omega)) d_Tk_readWord_60 ?_
      refine V.i2l X d_Tk_readWord_61 rfl ?_
      refine V.lor X d_Tk_readWord_62 rfl ?_
      refine V.lstore_n (lv' := [(0, _), (1, _), (2, _), (3, _)]) X d_Tk_readWord_63 (by decide) rfl ?_
      refine V.aload_n X d_Tk_readWord_64 rfl ?_
      refine V.dup X d_Tk_readWord_65 rfl ?_
      refine g_Tk_end X k_Tk_33 d_Tk_readWord_66 ?_
      refine V.iconst (v := nI 1) X d_Tk_readWord_69 (by decide +kernel) ?_
      refine V.iadd X d_Tk_readWord_70 (nI_add _ _) ?_
      refine p_Tk_end X k_Tk_33 d_Tk_readWord_71 ?_
      refine V.goto (tgt := 7) X d_Tk_readWord_74 (by decide) ?_
      exact ih _ _ (by omega) (by omega)
    · refine V.aload_n X d_Tk_readWord_33 rfl ?_
      refine g_Tk_text X k_Tk_25 d_Tk_readWord_34 ?_
      refine V.aload_n X d_Tk_readWord_37 rfl ?_
      refine g_Tk_end X k_Tk_33 d_Tk_readWord_38 ?_
      refine l_PM_text X (by first | omega | (dsimp only; omega) | (simp only [] at *; omega)) d_Tk_readWord_41 ?_
      refine V.callS1 X (c_Tk_isDigit (h + 1) (x := P.1 q) (by first | omega | (dsimp only at *; omega))) Y_Tk_isDigit k_Tk_62 rfl rfl rfl (Rok.lt (by omega)) d_Tk_readWord_42 ?_
      refine V.ifB_eq (tgt := 77) X d_Tk_readWord_45 (by decide) (fun h45 => ?_) (fun h45 => ?_)
      · rw [show tk_word P.1 (n + 1) q v = (q, v) from if_neg (by rw [h30, h45]; decide)]
        refine V.aload_n X d_Tk_readWord_77 rfl ?_
        refine g_Tk_contents X k_Tk_21 d_Tk_readWord_78 ?_
        refine V.iload_n X d_Tk_readWord_81 rfl ?_
        refine V.lload_n X d_Tk_readWord_82 rfl ?_
        refine s_Tk_contents X (by first | omega | (dsimp only; omega) | (simp only [] at *; omega)) d_Tk_readWord_83 ?_
        refine V.aload_n X d_Tk_readWord_84 rfl ?_
        refine g_Tk_end X k_Tk_33 d_Tk_readWord_85 ?_
        refine V.iload_n X d_Tk_readWord_88 rfl ?_
        refine V.isub X d_Tk_readWord_89 (pk_sub (by first | omega | (dsimp only; omega) | (simp only [] at *; omega))) ?_
        refine V.bipush (v := nI 6) X d_Tk_readWord_90 (by decide +kernel) ?_
        refine V.cmpN_le (tgt := 101) X d_Tk_readWord_92 (by decide) (by first | omega | (dsimp only; omega) | (simp only [] at *; omega)) (by first | omega | (dsimp only; omega) | (simp only [] at *; omega)) (fun h92 => ?_) (fun h92 => ?_)
        · rw [show tk_wK P.1 p0 q = (tk_find P.1 q p0 29 0).getD 25 from if_pos h92]
          refine V.aload_n X d_Tk_readWord_101 rfl ?_
          refine V.iload_n X d_Tk_readWord_102 rfl ?_
          refine V.getK X 25 (by decide) k_Tk_71 d_Tk_readWord_103 ?_
          refine V.callV1 X (c_Tk_kindSpelled h (k := 25) (by decide) (by first | omega | (dsimp only at *; omega)) (by first | omega | (dsimp only at *; omega)) hP) Y_Tk_kindSpelled k_Tk_74 3 rfl rfl rfl rfl rfl (Rok.lt (by omega)) d_Tk_readWord_106 ?_
          exact V.aret X d_Tk_readWord_109 rfl rfl
        · rw [show tk_wK P.1 p0 q = 27 from if_neg (Nat.not_le.mpr h92)]
          refine V.getK X 27 (by decide) k_Tk_47 d_Tk_readWord_95 ?_
          refine V.goto (tgt := 109) X d_Tk_readWord_98 (by decide) ?_
          exact V.aret X d_Tk_readWord_109 rfl rfl
      · rw [show tk_word P.1 (n + 1) q v = tk_word P.1 n (q + 1) (v <<< ((nI 8).toInt64 &&& 63) ||| (nI (P.1 q)).toInt64) from if_pos (by rw [h45]; exact Bool.or_true _)]
        refine V.lload_n X d_Tk_readWord_48 rfl ?_
        refine V.bipush (v := nI 8) X d_Tk_readWord_49 (by decide +kernel) ?_
        refine V.lshl X d_Tk_readWord_51 rfl ?_
        refine V.aload_n X d_Tk_readWord_52 rfl ?_
        refine g_Tk_text X k_Tk_25 d_Tk_readWord_53 ?_
        refine V.aload_n X d_Tk_readWord_56 rfl ?_
        refine g_Tk_end X k_Tk_33 d_Tk_readWord_57 ?_
        refine l_PM_text X (by first | omega | (dsimp only; omega) | (simp only [] at *; omega)) d_Tk_readWord_60 ?_
        refine V.i2l X d_Tk_readWord_61 rfl ?_
        refine V.lor X d_Tk_readWord_62 rfl ?_
        refine V.lstore_n (lv' := [(0, _), (1, _), (2, _), (3, _)]) X d_Tk_readWord_63 (by decide) rfl ?_
        refine V.aload_n X d_Tk_readWord_64 rfl ?_
        refine V.dup X d_Tk_readWord_65 rfl ?_
        refine g_Tk_end X k_Tk_33 d_Tk_readWord_66 ?_
        refine V.iconst (v := nI 1) X d_Tk_readWord_69 (by decide +kernel) ?_
        refine V.iadd X d_Tk_readWord_70 (nI_add _ _) ?_
        refine p_Tk_end X k_Tk_33 d_Tk_readWord_71 ?_
        refine V.goto (tgt := 7) X d_Tk_readWord_74 (by decide) ?_
        exact ih _ _ (by omega) (by omega)
set_option maxHeartbeats 4000000 in
set_option maxRecDepth 100000 in
theorem c_Tk_readNumber {l : Launch} {z : Zt} {a u w : Nat → Nat} {P : Pm} {F : Int32} {N : Nm} {C D : Co} {M : Mc} (h : Nat) {K : Nat → Option Nat} {Pl : Nat → Nat} {Ct : Nat → Int64} {L E cu : Nat} {i p0 : Nat} (hi : i < 151) (hp : p0 ≤ L) (hL : L ≤ 300) (hP : ∀ j, P.1 j < 2 ^ 16) : XC l (Gz z) (h + 7) y_Tk_readNumber b_Tk_readNumber 5 (some (.object "PascalMachine$Kind")) [.ref (a 3), .int (nI i), .int (nI p0)] (cw z a u w P F (K, Pl, Ct, a 1, L, E, cu) N C D M) (.inl (some (.ref (ek z (tk_nK p0 (tk_num P.1 (L - p0) p0 (lN 0)).1))))) (cw z a u w P F (K, Pl, va_up Ct i (tk_num P.1 (L - p0) p0 (lN 0)).2, a 1, L, (tk_num P.1 (L - p0) p0 (lN 0)).1, cu) N C D M) := by
  refine XC.ofV (by decide +kernel) rfl ?_
  intro p e s m below meth c X hnm
  refine V.lvs (lv' := [(0, .ref (a 3)), (1, .int (nI i)), (2, .int (nI p0))]) rfl ?_
  refine V.lconst (v := lN 0) X d_Tk_readNumber_0 (by decide +kernel) ?_
  refine V.lstore_n (lv' := [(0, _), (1, _), (2, _), (3, _)]) X d_Tk_readNumber_1 (by decide) rfl ?_
  refine V.aload_n X d_Tk_readNumber_2 rfl ?_
  refine V.iload_n X d_Tk_readNumber_3 rfl ?_
  refine p_Tk_end X k_Tk_33 d_Tk_readNumber_4 ?_
  suffices loop7 : ∀ (n q : Nat) (v : Int64), q + n = L → p0 ≤ q → V p l e (Rm (h + 7)) s m ([.ref (a 3), .int (nI i), .int (nI p0)] : List Value).toArray below meth c (Gz z) 5 0 0 (XE below (Gz z) (.inl (some (.ref (ek z (tk_nK p0 (tk_num P.1 n q v).1))))) (cw z a u w P F (K, Pl, va_up Ct i (tk_num P.1 n q v).2, a 1, L, (tk_num P.1 n q v).1, cu) N C D M) ([.ref (a 3), .int (nI i), .int (nI p0)] : List Value).toArray s) (cw z a u w P F (K, Pl, Ct, a 1, L, q, cu) N C D M) 7 [(0, .ref (a 3)), (1, .int (nI i)), (2, .int (nI p0)), (3, .long v)] [] from loop7 (L - p0) p0 (lN 0) (by omega) (Nat.le_refl _)
  intro n
  induction n with
  | zero =>
    intro q v hq hp0
    rw [show tk_num P.1 0 q v = (q, v) from rfl]
    refine V.aload_n X d_Tk_readNumber_7 rfl ?_
    refine g_Tk_end X k_Tk_33 d_Tk_readNumber_8 ?_
    refine V.aload_n X d_Tk_readNumber_11 rfl ?_
    refine g_Tk_length X k_Tk_29 d_Tk_readNumber_12 ?_
    refine V.cmpN_ge (tgt := 66) X d_Tk_readNumber_15 (by decide) (by first | omega | (dsimp only; omega) | (simp only [] at *; omega)) (by first | omega | (dsimp only; omega) | (simp only [] at *; omega)) (fun h15 => ?_) (fun h15 => absurd h15 (by first | omega | (dsimp only; omega) | (simp only [] at *; omega)))
    refine V.aload_n X d_Tk_readNumber_66 rfl ?_
    refine g_Tk_contents X k_Tk_21 d_Tk_readNumber_67 ?_
    refine V.iload_n X d_Tk_readNumber_70 rfl ?_
    refine V.lload_n X d_Tk_readNumber_71 rfl ?_
    refine s_Tk_contents X (by first | omega | (dsimp only; omega) | (simp only [] at *; omega)) d_Tk_readNumber_72 ?_
    refine V.aload_n X d_Tk_readNumber_73 rfl ?_
    refine g_Tk_end X k_Tk_33 d_Tk_readNumber_74 ?_
    refine V.iload_n X d_Tk_readNumber_77 rfl ?_
    refine V.isub X d_Tk_readNumber_78 (pk_sub (by first | omega | (dsimp only; omega) | (simp only [] at *; omega))) ?_
    refine V.bipush (v := nI 9) X d_Tk_readNumber_79 (by decide +kernel) ?_
    refine V.cmpN_le (tgt := 90) X d_Tk_readNumber_81 (by decide) (by first | omega | (dsimp only; omega) | (simp only [] at *; omega)) (by first | omega | (dsimp only; omega) | (simp only [] at *; omega)) (fun h81 => ?_) (fun h81 => ?_)
    · rw [show tk_nK p0 q = 26 from if_pos h81]
      refine V.getK X 26 (by decide) k_Tk_80 d_Tk_readNumber_90 ?_
      exact V.aret X d_Tk_readNumber_93 rfl rfl
    · rw [show tk_nK p0 q = 27 from if_neg (Nat.not_le.mpr h81)]
      refine V.getK X 27 (by decide) k_Tk_47 d_Tk_readNumber_84 ?_
      refine V.goto (tgt := 93) X d_Tk_readNumber_87 (by decide) ?_
      exact V.aret X d_Tk_readNumber_93 rfl rfl
  | succ n ih =>
    intro q v hq hp0
    have hPq := hP q
    refine V.aload_n X d_Tk_readNumber_7 rfl ?_
    refine g_Tk_end X k_Tk_33 d_Tk_readNumber_8 ?_
    refine V.aload_n X d_Tk_readNumber_11 rfl ?_
    refine g_Tk_length X k_Tk_29 d_Tk_readNumber_12 ?_
    refine V.cmpN_ge (tgt := 66) X d_Tk_readNumber_15 (by decide) (by first | omega | (dsimp only; omega) | (simp only [] at *; omega)) (by first | omega | (dsimp only; omega) | (simp only [] at *; omega)) (fun h15 => absurd h15 (by first | omega | (dsimp only; omega) | (simp only [] at *; omega))) (fun h15 => ?_)
    refine V.aload_n X d_Tk_readNumber_18 rfl ?_
    refine g_Tk_text X k_Tk_25 d_Tk_readNumber_19 ?_
    refine V.aload_n X d_Tk_readNumber_22 rfl ?_
    refine g_Tk_end X k_Tk_33 d_Tk_readNumber_23 ?_
    refine l_PM_text X (by first | omega | (dsimp only; omega) | (simp only [] at *; omega)) d_Tk_readNumber_26 ?_
    refine V.callS1 X (c_Tk_isDigit (h + 1) (x := P.1 q) (by first | omega | (dsimp only at *; omega))) Y_Tk_isDigit k_Tk_62 rfl rfl rfl (Rok.lt (by omega)) d_Tk_readNumber_27 ?_
    refine V.ifB_eq (tgt := 66) X d_Tk_readNumber_30 (by decide) (fun h30 => ?_) (fun h30 => ?_)
    · rw [show tk_num P.1 (n + 1) q v = (q, v) from if_neg (by rw [h30]; decide)]
      refine V.aload_n X d_Tk_readNumber_66 rfl ?_
      refine g_Tk_contents X k_Tk_21 d_Tk_readNumber_67 ?_
      refine V.iload_n X d_Tk_readNumber_70 rfl ?_
      refine V.lload_n X d_Tk_readNumber_71 rfl ?_
      refine s_Tk_contents X (by first | omega | (dsimp only; omega) | (simp only [] at *; omega)) d_Tk_readNumber_72 ?_
      refine V.aload_n X d_Tk_readNumber_73 rfl ?_
      refine g_Tk_end X k_Tk_33 d_Tk_readNumber_74 ?_
      refine V.iload_n X d_Tk_readNumber_77 rfl ?_
      refine V.isub X d_Tk_readNumber_78 (pk_sub (by first | omega | (dsimp only; omega) | (simp only [] at *; omega))) ?_
      refine V.bipush (v := nI 9) X d_Tk_readNumber_79 (by decide +kernel) ?_
      refine V.cmpN_le (tgt := 90) X d_Tk_readNumber_81 (by decide) (by first | omega | (dsimp only; omega) | (simp only [] at *; omega)) (by first | omega | (dsimp only; omega) | (simp only [] at *; omega)) (fun h81 => ?_) (fun h81 => ?_)
      · rw [show tk_nK p0 q = 26 from if_pos h81]
        refine V.getK X 26 (by decide) k_Tk_80 d_Tk_readNumber_90 ?_
        exact V.aret X d_Tk_readNumber_93 rfl rfl
      · rw [show tk_nK p0 q = 27 from if_neg (Nat.not_le.mpr h81)]
        refine V.getK X 27 (by decide) k_Tk_47 d_Tk_readNumber_84 ?_
        refine V.goto (tgt := 93) X d_Tk_readNumber_87 (by decide) ?_
        exact V.aret X d_Tk_readNumber_93 rfl rfl
    · rw [show tk_num P.1 (n + 1) q v = tk_num P.1 n (q + 1) (v * 10 + (nI (P.1 q - 48)).toInt64) from if_pos h30]
      have hdq : 48 ≤ P.1 q := by simp [isD] at h30; exact h30.1
      refine V.lload_n X d_Tk_readNumber_33 rfl ?_
      refine V.ldc2 X d_Tk_readNumber_34 k_Tk_78 ?_
      refine V.lmul X d_Tk_readNumber_37 rfl ?_
      refine V.aload_n X d_Tk_readNumber_38 rfl ?_
      refine g_Tk_text X k_Tk_25 d_Tk_readNumber_39 ?_
      refine V.aload_n X d_Tk_readNumber_42 rfl ?_
      refine g_Tk_end X k_Tk_33 d_Tk_readNumber_43 ?_
      refine l_PM_text X (by first | omega | (dsimp only; omega) | (simp only [] at *; omega)) d_Tk_readNumber_46 ?_
      refine V.bipush (v := nI 48) X d_Tk_readNumber_47 (by decide +kernel) ?_
      refine V.isub X d_Tk_readNumber_49 (pk_sub (by first | omega | (dsimp only; omega) | (simp only [] at *; omega))) ?_
      refine V.i2l X d_Tk_readNumber_50 rfl ?_
      refine V.ladd X d_Tk_readNumber_51 rfl ?_
      refine V.lstore_n (lv' := [(0, _), (1, _), (2, _), (3, _)]) X d_Tk_readNumber_52 (by decide) rfl ?_
      refine V.aload_n X d_Tk_readNumber_53 rfl ?_
      refine V.dup X d_Tk_readNumber_54 rfl ?_
      refine g_Tk_end X k_Tk_33 d_Tk_readNumber_55 ?_
      refine V.iconst (v := nI 1) X d_Tk_readNumber_58 (by decide +kernel) ?_
      refine V.iadd X d_Tk_readNumber_59 (nI_add _ _) ?_
      refine p_Tk_end X k_Tk_33 d_Tk_readNumber_60 ?_
      refine V.goto (tgt := 7) X d_Tk_readNumber_63 (by decide) ?_
      exact ih _ _ (by omega) (by omega)
set_option maxHeartbeats 4000000 in
set_option maxRecDepth 100000 in
theorem c_Tk_readSign {l : Launch} {z : Zt} {a u w : Nat → Nat} {P : Pm} {F : Int32} {N : Nm} {C D : Co} {M : Mc} (h : Nat) {K : Nat → Option Nat} {Pl : Nat → Nat} {Ct : Nat → Int64} {L E cu : Nat} {p0 : Nat} (hp : p0 < L) (hL : L ≤ 300) (hP : ∀ j, P.1 j < 2 ^ 16) : XC l (Gz z) (h + 7) y_Tk_readSign b_Tk_readSign 2 (some (.object "PascalMachine$Kind")) [.ref (a 3), .int (nI p0)] (cw z a u w P F (K, Pl, Ct, a 1, L, E, cu) N C D M) (.inl (some (.ref (ek z (tk_sK P.1 L p0))))) (cw z a u w P F (K, Pl, Ct, a 1, L, tk_sE P.1 L p0, cu) N C D M) := by
  have hPp := hP p0
  refine XC.ofV (by decide +kernel) rfl ?_
  intro p e s m below meth c X hnm
  refine V.lvs (lv' := [(0, .ref (a 3)), (1, .int (nI p0))]) rfl ?_
  refine V.aload_n X d_Tk_readSign_0 rfl ?_
  refine V.aload_n X d_Tk_readSign_1 rfl ?_
  refine g_Tk_length X k_Tk_29 d_Tk_readSign_2 ?_
  refine V.iload_n X d_Tk_readSign_5 rfl ?_
  refine V.aload_n X d_Tk_readSign_6 rfl ?_
  refine g_Tk_text X k_Tk_25 d_Tk_readSign_7 ?_
  refine V.iload_n X d_Tk_readSign_10 rfl ?_
  refine l_PM_text X (by first | omega | (dsimp only; omega) | (simp only [] at *; omega)) d_Tk_readSign_11 ?_
  refine V.bipush (v := nI 58) X d_Tk_readSign_12 (by decide +kernel) ?_
  refine V.cmpN_ne (tgt := 21) X d_Tk_readSign_14 (by decide) (by first | omega | (dsimp only; omega) | (simp only [] at *; omega)) (by first | omega | (dsimp only; omega) | (simp only [] at *; omega)) (fun h14 => ?_) (fun h14 => ?_)
  · have hse : tk_sE P.1 L p0 = min L (p0 + 1) := by rw [tk_sE, if_neg h14]
    refine V.iconst (v := nI 1) X d_Tk_readSign_21 (by decide +kernel) ?_
    refine V.iadd X d_Tk_readSign_22 (nI_add _ _) ?_
    refine V.callS1 X (c_JM_min (h + 1) (by first | omega | (dsimp only at *; omega)) (by first | omega | (dsimp only at *; omega))) Y_JM_min k_Tk_83 rfl rfl rfl (Rok.lt (by omega)) d_Tk_readSign_23 ?_
    rw [tk_sK, hse]
    refine p_Tk_end X k_Tk_33 d_Tk_readSign_26 ?_
    refine V.aload_n X d_Tk_readSign_29 rfl ?_
    refine V.iload_n X d_Tk_readSign_30 rfl ?_
    refine V.getK X 27 (by decide) k_Tk_47 d_Tk_readSign_31 ?_
    refine V.callV1 X (c_Tk_kindSpelled h (k := 27) (by decide) (by first | omega | (dsimp only at *; omega)) (by first | omega | (dsimp only at *; omega)) hP) Y_Tk_kindSpelled k_Tk_74 3 rfl rfl rfl rfl rfl (Rok.lt (by omega)) d_Tk_readSign_34 ?_
    exact V.aret X d_Tk_readSign_37 rfl rfl
  · have hse : tk_sE P.1 L p0 = min L (p0 + 2) := by rw [tk_sE, if_pos h14]
    refine V.iconst (v := nI 2) X d_Tk_readSign_17 (by decide +kernel) ?_
    refine V.goto (tgt := 22) X d_Tk_readSign_18 (by decide) ?_
    refine V.iadd X d_Tk_readSign_22 (nI_add _ _) ?_
    refine V.callS1 X (c_JM_min (h + 1) (by first | omega | (dsimp only at *; omega)) (by first | omega | (dsimp only at *; omega))) Y_JM_min k_Tk_83 rfl rfl rfl (Rok.lt (by omega)) d_Tk_readSign_23 ?_
    rw [tk_sK, hse]
    refine p_Tk_end X k_Tk_33 d_Tk_readSign_26 ?_
    refine V.aload_n X d_Tk_readSign_29 rfl ?_
    refine V.iload_n X d_Tk_readSign_30 rfl ?_
    refine V.getK X 27 (by decide) k_Tk_47 d_Tk_readSign_31 ?_
    refine V.callV1 X (c_Tk_kindSpelled h (k := 27) (by decide) (by first | omega | (dsimp only at *; omega)) (by first | omega | (dsimp only at *; omega)) hP) Y_Tk_kindSpelled k_Tk_74 3 rfl rfl rfl rfl rfl (Rok.lt (by omega)) d_Tk_readSign_34 ?_
    exact V.aret X d_Tk_readSign_37 rfl rfl
/-- the kind, places, contents, end -/
def tk_tok (f : Nat → Nat) (L i : Nat) (Pl : Nat → Nat) (Ct : Nat → Int64) (E : Nat) : Nat × (Nat → Nat) × (Nat → Int64) × Nat :=
  if tk_skip f (L - E) E = L then (28, va_up Pl i E, Ct, E)
  else if i = 150 then (27, va_up Pl i (tk_skip f (L - E) E), Ct, E)
  else if isL (f (tk_skip f (L - E) E)) = true then (tk_wK f (tk_skip f (L - E) E) (tk_word f (L - tk_skip f (L - E) E) (tk_skip f (L - E) E) (lN 0)).1, va_up Pl i (tk_skip f (L - E) E), va_up Ct i (tk_word f (L - tk_skip f (L - E) E) (tk_skip f (L - E) E) (lN 0)).2, (tk_word f (L - tk_skip f (L - E) E) (tk_skip f (L - E) E) (lN 0)).1)
  else if isD (f (tk_skip f (L - E) E)) = true then (tk_nK (tk_skip f (L - E) E) (tk_num f (L - tk_skip f (L - E) E) (tk_skip f (L - E) E) (lN 0)).1, va_up Pl i (tk_skip f (L - E) E), va_up Ct i (tk_num f (L - tk_skip f (L - E) E) (tk_skip f (L - E) E) (lN 0)).2, (tk_num f (L - tk_skip f (L - E) E) (tk_skip f (L - E) E) (lN 0)).1)
  else (tk_sK f L (tk_skip f (L - E) E), va_up Pl i (tk_skip f (L - E) E), Ct, tk_sE f L (tk_skip f (L - E) E))
theorem tk_tok_lt {f : Nat → Nat} {L i : Nat} {Pl : Nat → Nat} {Ct : Nat → Int64} {E : Nat} : (tk_tok f L i Pl Ct E).1 < 29 := by
  unfold tk_tok
  split
  · exact (by decide : 28 < 29)
  · split
    · exact (by decide : 27 < 29)
    · split
      · exact tk_wK_lt
      · split
        · exact tk_nK_lt
        · exact tk_sK_lt
theorem tk_tok_le {f : Nat → Nat} {L i : Nat} {Pl : Nat → Nat} {Ct : Nat → Int64} {E : Nat} (hE : E ≤ L) : E ≤ (tk_tok f L i Pl Ct E).2.2.2 ∧ (tk_tok f L i Pl Ct E).2.2.2 ≤ L := by
  have h := tk_skip_le (f := f) (L - E) E
  unfold tk_tok
  split
  · exact ⟨Nat.le_refl _, hE⟩
  · split
    · exact ⟨Nat.le_refl _, hE⟩
    · split
      · have := tk_word_le (f := f) (L - tk_skip f (L - E) E) (tk_skip f (L - E) E) (lN 0)
        dsimp only
        omega
      · split
        · have := tk_num_le (f := f) (L - tk_skip f (L - E) E) (tk_skip f (L - E) E) (lN 0)
          dsimp only
          omega
        · dsimp only
          unfold tk_sE
          split <;> omega
set_option maxHeartbeats 4000000 in
set_option maxRecDepth 100000 in
theorem c_Tk_readToken {l : Launch} {z : Zt} {a u w : Nat → Nat} {P : Pm} {F : Int32} {N : Nm} {C D : Co} {M : Mc} (h : Nat) {K : Nat → Option Nat} {Pl : Nat → Nat} {Ct : Nat → Int64} {L E cu : Nat} {i : Nat} (hi : i < 151) (hE : E ≤ L) (hL : L ≤ 300) (hP : ∀ j, P.1 j < 2 ^ 16) : XC l (Gz z) (h + 8) y_Tk_readToken b_Tk_readToken 3 (some (.object "PascalMachine$Kind")) [.ref (a 3), .int (nI i)] (cw z a u w P F (K, Pl, Ct, a 1, L, E, cu) N C D M) (.inl (some (.ref (ek z (tk_tok P.1 L i Pl Ct E).1)))) (cw z a u w P F (K, (tk_tok P.1 L i Pl Ct E).2.1, (tk_tok P.1 L i Pl Ct E).2.2.1, a 1, L, (tk_tok P.1 L i Pl Ct E).2.2.2, cu) N C D M) := by
  have hsk := tk_skip_le (f := P.1) (L - E) E
  have hPs := hP (tk_skip P.1 (L - E) E)
  refine XC.ofV (by decide +kernel) rfl ?_
  intro p e s m below meth c X hnm
  refine V.lvs (lv' := [(0, .ref (a 3)), (1, .int (nI i))]) rfl ?_
  refine V.aload_n X d_Tk_readToken_0 rfl ?_
  refine V.callV1 X (c_Tk_behindBlanks h hE hL hP) Y_Tk_behindBlanks k_Tk_50 3 rfl rfl rfl rfl rfl (Rok.lt (by omega)) d_Tk_readToken_1 ?_
  refine V.istore_n (lv' := [(0, _), (1, _), (2, _)]) X d_Tk_readToken_4 (by decide) rfl ?_
  refine V.iload_n X d_Tk_readToken_5 rfl ?_
  refine V.aload_n X d_Tk_readToken_6 rfl ?_
  refine g_Tk_length X k_Tk_29 d_Tk_readToken_7 ?_
  refine V.cmpN_ne (tgt := 27) X d_Tk_readToken_10 (by decide) (by first | omega | (dsimp only; omega) | (simp only [] at *; omega)) (by first | omega | (dsimp only; omega) | (simp only [] at *; omega)) (fun h10 => ?_) (fun h10 => ?_)
  · refine V.aload_n X d_Tk_readToken_27 rfl ?_
    refine g_Tk_places X k_Tk_17 d_Tk_readToken_28 ?_
    refine V.iload_n X d_Tk_readToken_31 rfl ?_
    refine V.iload_n X d_Tk_readToken_32 rfl ?_
    refine s_Tk_places X (by first | omega | (dsimp only; omega) | (simp only [] at *; omega)) d_Tk_readToken_33 ?_
    refine V.iload_n X d_Tk_readToken_34 rfl ?_
    refine V.sipush (v := nI 150) X d_Tk_readToken_35 (by decide +kernel) ?_
    refine V.cmpN_ne (tgt := 45) X d_Tk_readToken_38 (by decide) (by first | omega | (dsimp only; omega) | (simp only [] at *; omega)) (by first | omega | (dsimp only; omega) | (simp only [] at *; omega)) (fun h38 => ?_) (fun h38 => ?_)
    · refine V.aload_n X d_Tk_readToken_45 rfl ?_
      refine g_Tk_text X k_Tk_25 d_Tk_readToken_46 ?_
      refine V.iload_n X d_Tk_readToken_49 rfl ?_
      refine l_PM_text X (by first | omega | (dsimp only; omega) | (simp only [] at *; omega)) d_Tk_readToken_50 ?_
      refine V.callS1 X (c_Tk_isLetter h (x := P.1 (tk_skip P.1 (L - E) E)) (by first | omega | (dsimp only at *; omega))) Y_Tk_isLetter k_Tk_54 rfl rfl rfl (Rok.lt (by omega)) d_Tk_readToken_51 ?_
      refine V.ifB_eq (tgt := 64) X d_Tk_readToken_54 (by decide) (fun h54 => ?_) (fun h54 => ?_)
      · refine V.aload_n X d_Tk_readToken_64 rfl ?_
        refine g_Tk_text X k_Tk_25 d_Tk_readToken_65 ?_
        refine V.iload_n X d_Tk_readToken_68 rfl ?_
        refine l_PM_text X (by first | omega | (dsimp only; omega) | (simp only [] at *; omega)) d_Tk_readToken_69 ?_
        refine V.callS1 X (c_Tk_isDigit h (x := P.1 (tk_skip P.1 (L - E) E)) (by first | omega | (dsimp only at *; omega))) Y_Tk_isDigit k_Tk_62 rfl rfl rfl (Rok.lt (by omega)) d_Tk_readToken_70 ?_
        refine V.ifB_eq (tgt := 85) X d_Tk_readToken_73 (by decide) (fun h73 => ?_) (fun h73 => ?_)
        · rw [tk_tok, if_neg h10, if_neg h38, if_neg (by rw [h54]; decide), if_neg (by rw [h73]; decide)]
          refine V.aload_n X d_Tk_readToken_85 rfl ?_
          refine V.iload_n X d_Tk_readToken_86 rfl ?_
          refine V.callV1 X (c_Tk_readSign h (by first | omega | (dsimp only at *; omega)) hL hP) Y_Tk_readSign k_Tk_68 3 rfl rfl rfl rfl rfl (Rok.lt (by omega)) d_Tk_readToken_87 ?_
          exact V.aret X d_Tk_readToken_90 rfl rfl
        · rw [tk_tok, if_neg h10, if_neg h38, if_neg (by rw [h54]; decide), if_pos h73]
          refine V.aload_n X d_Tk_readToken_76 rfl ?_
          refine V.iload_n X d_Tk_readToken_77 rfl ?_
          refine V.iload_n X d_Tk_readToken_78 rfl ?_
          refine V.callV1 X (c_Tk_readNumber h hi (by first | omega | (dsimp only at *; omega)) hL hP) Y_Tk_readNumber k_Tk_65 3 rfl rfl rfl rfl rfl (Rok.lt (by omega)) d_Tk_readToken_79 ?_
          refine V.goto (tgt := 90) X d_Tk_readToken_82 (by decide) ?_
          exact V.aret X d_Tk_readToken_90 rfl rfl
      · rw [tk_tok, if_neg h10, if_neg h38, if_pos h54]
        refine V.aload_n X d_Tk_readToken_57 rfl ?_
        refine V.iload_n X d_Tk_readToken_58 rfl ?_
        refine V.iload_n X d_Tk_readToken_59 rfl ?_
        refine V.callV1 X (c_Tk_readWord h hi (by first | omega | (dsimp only at *; omega)) hL hP) Y_Tk_readWord k_Tk_58 3 rfl rfl rfl rfl rfl (Rok.lt (by omega)) d_Tk_readToken_60 ?_
        exact V.aret X d_Tk_readToken_63 rfl rfl
    · rw [tk_tok, if_neg h10, if_pos h38]
      refine V.getK X 27 (by decide) k_Tk_47 d_Tk_readToken_41 ?_
      exact V.aret X d_Tk_readToken_44 rfl rfl
  · rw [tk_tok, if_pos h10]
    refine V.aload_n X d_Tk_readToken_13 rfl ?_
    refine g_Tk_places X k_Tk_17 d_Tk_readToken_14 ?_
    refine V.iload_n X d_Tk_readToken_17 rfl ?_
    refine V.aload_n X d_Tk_readToken_18 rfl ?_
    refine g_Tk_end X k_Tk_33 d_Tk_readToken_19 ?_
    refine s_Tk_places X (by first | omega | (dsimp only; omega) | (simp only [] at *; omega)) d_Tk_readToken_22 ?_
    refine V.getK X 28 (by decide) k_Tk_43 d_Tk_readToken_23 ?_
    exact V.aret X d_Tk_readToken_26 rfl rfl
abbrev TS : Type := (Nat → Option Nat) × (Nat → Nat) × (Nat → Int64) × Nat
def tk_one (f : Nat → Nat) (L i : Nat) (S : TS) : TS := (va_up S.1 i (some (tk_tok f L i S.2.1 S.2.2.1 S.2.2.2).1), (tk_tok f L i S.2.1 S.2.2.1 S.2.2.2).2)
def tk_more (k : Nat) : Bool := decide (k ≠ 28) && decide (k ≠ 27)
def tk_read (f : Nat → Nat) (L : Nat) : Nat → Nat → Bool → TS → TS
  | 0, _, _, S => S
  | n + 1, i, b, S => if b = false then S else tk_read f L n (i + 1) (tk_more (tk_tok f L i S.2.1 S.2.2.1 S.2.2.2).1) (tk_one f L i S)
set_option maxHeartbeats 4000000 in
set_option maxRecDepth 100000 in
theorem c_Tk_read {l : Launch} {z : Zt} {a u w : Nat → Nat} {P : Pm} {F : Int32} {T : Tk} {N : Nm} {C D : Co} {M : Mc} (h : Nat) {L : Nat} (hL : L ≤ 300) (hP : ∀ j, P.1 j < 2 ^ 16) : XC l (Gz z) (h + 9) y_Tk_read b_Tk_read 5 none [.ref (a 3), .ref (a 1), .int (nI L)] (cw z a u w P F T N C D M) (.inl none) (cw z a u w P F ((tk_read P.1 L 151 0 true (T.1, T.2.1, T.2.2.1, 0)).1, (tk_read P.1 L 151 0 true (T.1, T.2.1, T.2.2.1, 0)).2.1, (tk_read P.1 L 151 0 true (T.1, T.2.1, T.2.2.1, 0)).2.2.1, a 1, L, (tk_read P.1 L 151 0 true (T.1, T.2.1, T.2.2.1, 0)).2.2.2, 0) N C D M) := by
  refine XC.ofV (by decide +kernel) rfl ?_
  intro p e s m below meth c X hnm
  refine V.lvs (lv' := [(0, .ref (a 3)), (1, .ref (a 1)), (2, .int (nI L))]) rfl ?_
  refine V.aload_n X d_Tk_read_0 rfl ?_
  refine V.aload_n X d_Tk_read_1 rfl ?_
  refine p_Tk_text X k_Tk_25 d_Tk_read_2 ?_
  refine V.aload_n X d_Tk_read_5 rfl ?_
  refine V.iload_n X d_Tk_read_6 rfl ?_
  refine p_Tk_length X k_Tk_29 d_Tk_read_7 ?_
  refine V.aload_n X d_Tk_read_10 rfl ?_
  refine V.iconst (v := nI 0) X d_Tk_read_11 (by decide +kernel) ?_
  refine p_Tk_end X k_Tk_33 d_Tk_read_12 ?_
  refine V.aload_n X d_Tk_read_15 rfl ?_
  refine V.iconst (v := nI 0) X d_Tk_read_16 (by decide +kernel) ?_
  refine p_Tk_current X k_Tk_36 d_Tk_read_17 ?_
  refine V.iconst (v := nI 1) X d_Tk_read_20 (by decide +kernel) ?_
  refine V.istore_n (lv' := [(0, _), (1, _), (2, _), (3, _)]) X d_Tk_read_21 (by decide) rfl ?_
  refine V.iconst (v := nI 0) X d_Tk_read_22 (by decide +kernel) ?_
  refine V.istore (lv' := [(0, _), (1, _), (2, _), (3, _), (4, _)]) X d_Tk_read_23 (by decide) rfl ?_
  suffices loop25 : ∀ (n i : Nat) (b : Bool) (S : TS), i + n = 151 → S.2.2.2 ≤ L → V p l e (Rm (h + 9)) s m ([.ref (a 3), .ref (a 1), .int (nI L)] : List Value).toArray below meth c (Gz z) 5 0 0 (XE below (Gz z) (.inl none) (cw z a u w P F ((tk_read P.1 L n i b S).1, (tk_read P.1 L n i b S).2.1, (tk_read P.1 L n i b S).2.2.1, a 1, L, (tk_read P.1 L n i b S).2.2.2, 0) N C D M) ([.ref (a 3), .ref (a 1), .int (nI L)] : List Value).toArray s) (cw z a u w P F (S.1, S.2.1, S.2.2.1, a 1, L, S.2.2.2, 0) N C D M) 25 [(0, .ref (a 3)), (1, .ref (a 1)), (2, .int (nI L)), (3, .int (bI b)), (4, .int (nI i))] [] from loop25 151 0 true (T.1, T.2.1, T.2.2.1, 0) rfl (Nat.zero_le _)
  intro n
  induction n with
  | zero =>
    intro i b S hi hS
    refine V.iload X d_Tk_read_25 rfl ?_
    refine V.sipush (v := nI 150) X d_Tk_read_27 (by decide +kernel) ?_
    refine V.cmpN_gt (tgt := 88) X d_Tk_read_30 (by decide) (by first | omega | (dsimp only; omega) | (simp only [] at *; omega)) (by first | omega | (dsimp only; omega) | (simp only [] at *; omega)) (fun h30 => ?_) (fun h30 => absurd h30 (by omega))
    exact V.vret X d_Tk_read_88 rfl rfl
  | succ n ih =>
    intro i b S hi hS
    have hS2 := tk_tok_le (f := P.1) (L := L) (i := i) (Pl := S.2.1) (Ct := S.2.2.1) (E := S.2.2.2) hS
    refine V.iload X d_Tk_read_25 rfl ?_
    refine V.sipush (v := nI 150) X d_Tk_read_27 (by decide +kernel) ?_
    refine V.cmpN_gt (tgt := 88) X d_Tk_read_30 (by decide) (by first | omega | (dsimp only; omega) | (simp only [] at *; omega)) (by first | omega | (dsimp only; omega) | (simp only [] at *; omega)) (fun h30 => absurd h30 (by omega)) (fun h30 => ?_)
    refine V.iload_n X d_Tk_read_33 rfl ?_
    refine V.ifB_eq (tgt := 88) X d_Tk_read_34 (by decide) (fun h34 => ?_) (fun h34 => ?_)
    · rw [tk_read, if_pos h34]
      exact V.vret X d_Tk_read_88 rfl rfl
    · subst h34
      rw [tk_read, if_neg (by decide)]
      refine V.aload_n X d_Tk_read_37 rfl ?_
      refine g_Tk_kinds X k_Tk_11 d_Tk_read_38 ?_
      refine V.iload X d_Tk_read_41 rfl ?_
      refine V.aload_n X d_Tk_read_43 rfl ?_
      refine V.iload X d_Tk_read_44 rfl ?_
      refine V.callV1 X (c_Tk_readToken h (i := i) (by first | omega | (dsimp only at *; omega)) hS hL hP) Y_Tk_readToken k_Tk_39 3 rfl rfl rfl rfl rfl (Rok.lt (by omega)) d_Tk_read_46 ?_
      refine V.aastK (ws' := (cw z a u w P F (va_up S.1 i (some (tk_tok P.1 L i S.2.1 S.2.2.1 S.2.2.2).1), (tk_tok P.1 L i S.2.1 S.2.2.1 S.2.2.2).2.1, (tk_tok P.1 L i S.2.1 S.2.2.1 S.2.2.2).2.2.1, a 1, L, (tk_tok P.1 L i S.2.1 S.2.2.1 S.2.2.2).2.2.2, 0) N C D M)) X 4 rfl rfl (by omega) (by decide) tk_tok_lt rfl d_Tk_read_49 ?_
      refine V.aload_n X d_Tk_read_50 rfl ?_
      refine g_Tk_kinds X k_Tk_11 d_Tk_read_51 ?_
      refine V.iload X d_Tk_read_54 rfl ?_
      refine l_Tk_kinds X (by first | omega | (dsimp only; omega) | (simp only [] at *; omega)) d_Tk_read_56 ?_
      refine V.eqs (sk' := [.ref (ek z (tk_tok P.1 L i S.2.1 S.2.2.1 S.2.2.2).1)]) (by simp [va_up, va_rf]) ?_
      refine V.getK X 28 (by decide) k_Tk_43 d_Tk_read_57 ?_
      refine V.acmp_eq (tgt := 80) X d_Tk_read_60 (by decide) (fun h60 => ?_) (fun h60 => ?_)
      · have hm : tk_more (tk_tok P.1 L i S.2.1 S.2.2.1 S.2.2.2).1 = false := by rw [ek_inj X.kk tk_tok_lt (by decide) h60]; rfl
        refine V.iconst (v := nI 0) X d_Tk_read_80 (by decide +kernel) ?_
        refine V.istore_n (lv' := [(0, _), (1, _), (2, _), (3, _), (4, _)]) X d_Tk_read_81 (by decide) rfl ?_
        refine V.iinc (lv' := [(0, _), (1, _), (2, _), (3, _), (4, _)]) X d_Tk_read_82 rfl (show _ + nI 1 = _ from nI_add _ 1) (by decide) rfl ?_
        refine V.goto (tgt := 25) X d_Tk_read_85 (by decide) ?_
        refine V.lvs (lv' := [(0, .ref (a 3)), (1, .ref (a 1)), (2, .int (nI L)), (3, .int (bI (tk_more (tk_tok P.1 L i S.2.1 S.2.2.1 S.2.2.2).1))), (4, .int (nI (i + 1)))]) (by rw [show tk_more (tk_tok P.1 L i S.2.1 S.2.2.1 S.2.2.2).1 = _ from hm]; rfl) ?_
        exact ih (i + 1) _ (tk_one P.1 L i S) (by omega) hS2.2
      · have h60n : (tk_tok P.1 L i S.2.1 S.2.2.1 S.2.2.2).1 ≠ 28 := fun q => h60 (by rw [q])
        refine V.aload_n X d_Tk_read_63 rfl ?_
        refine g_Tk_kinds X k_Tk_11 d_Tk_read_64 ?_
        refine V.iload X d_Tk_read_67 rfl ?_
        refine l_Tk_kinds X (by first | omega | (dsimp only; omega) | (simp only [] at *; omega)) d_Tk_read_69 ?_
        refine V.eqs (sk' := [.ref (ek z (tk_tok P.1 L i S.2.1 S.2.2.1 S.2.2.2).1)]) (by simp [va_up, va_rf]) ?_
        refine V.getK X 27 (by decide) k_Tk_47 d_Tk_read_70 ?_
        refine V.acmp_eq (tgt := 80) X d_Tk_read_73 (by decide) (fun h73 => ?_) (fun h73 => ?_)
        · have hm : tk_more (tk_tok P.1 L i S.2.1 S.2.2.1 S.2.2.2).1 = false := by rw [ek_inj X.kk tk_tok_lt (by decide) h73]; rfl
          refine V.iconst (v := nI 0) X d_Tk_read_80 (by decide +kernel) ?_
          refine V.istore_n (lv' := [(0, _), (1, _), (2, _), (3, _), (4, _)]) X d_Tk_read_81 (by decide) rfl ?_
          refine V.iinc (lv' := [(0, _), (1, _), (2, _), (3, _), (4, _)]) X d_Tk_read_82 rfl (show _ + nI 1 = _ from nI_add _ 1) (by decide) rfl ?_
          refine V.goto (tgt := 25) X d_Tk_read_85 (by decide) ?_
          refine V.lvs (lv' := [(0, .ref (a 3)), (1, .ref (a 1)), (2, .int (nI L)), (3, .int (bI (tk_more (tk_tok P.1 L i S.2.1 S.2.2.1 S.2.2.2).1))), (4, .int (nI (i + 1)))]) (by rw [show tk_more (tk_tok P.1 L i S.2.1 S.2.2.1 S.2.2.2).1 = _ from hm]; rfl) ?_
          exact ih (i + 1) _ (tk_one P.1 L i S) (by omega) hS2.2
        · have hm : tk_more (tk_tok P.1 L i S.2.1 S.2.2.1 S.2.2.2).1 = true := by have h73n : (tk_tok P.1 L i S.2.1 S.2.2.1 S.2.2.2).1 ≠ 27 := (fun q => h73 (by rw [q])); unfold tk_more; rw [decide_eq_true h60n, decide_eq_true h73n]; rfl
          refine V.iconst (v := nI 1) X d_Tk_read_76 (by decide +kernel) ?_
          refine V.goto (tgt := 81) X d_Tk_read_77 (by decide) ?_
          refine V.istore_n (lv' := [(0, _), (1, _), (2, _), (3, _), (4, _)]) X d_Tk_read_81 (by decide) rfl ?_
          refine V.iinc (lv' := [(0, _), (1, _), (2, _), (3, _), (4, _)]) X d_Tk_read_82 rfl (show _ + nI 1 = _ from nI_add _ 1) (by decide) rfl ?_
          refine V.goto (tgt := 25) X d_Tk_read_85 (by decide) ?_
          refine V.lvs (lv' := [(0, .ref (a 3)), (1, .ref (a 1)), (2, .int (nI L)), (3, .int (bI (tk_more (tk_tok P.1 L i S.2.1 S.2.2.1 S.2.2.2).1))), (4, .int (nI (i + 1)))]) (by rw [show tk_more (tk_tok P.1 L i S.2.1 S.2.2.1 S.2.2.2).1 = _ from hm]; rfl) ?_
          exact ih (i + 1) _ (tk_one P.1 L i S) (by omega) hS2.2
set_option maxHeartbeats 4000000 in
set_option maxRecDepth 100000 in
theorem c_Tk_kind {l : Launch} {z : Zt} {a u w : Nat → Nat} {P : Pm} {F : Int32} {T : Tk} {N : Nm} {C D : Co} {M : Mc} (h : Nat) {k : Nat} (hc : T.2.2.2.2.2.2 < 151) (hT : T.1 T.2.2.2.2.2.2 = some k) : XC l (Gz z) (h) y_Tk_kind b_Tk_kind 1 (some (.object "PascalMachine$Kind")) [.ref (a 3)] (cw z a u w P F T N C D M) (.inl (some (.ref (ek z k)))) (cw z a u w P F T N C D M) := by
  refine XC.ofV (by decide +kernel) rfl ?_
  intro p e s m below meth c X hnm
  refine V.lvs (lv' := [(0, .ref (a 3))]) rfl ?_
  refine V.aload_n X d_Tk_kind_0 rfl ?_
  refine g_Tk_kinds X k_Tk_11 d_Tk_kind_1 ?_
  refine V.aload_n X d_Tk_kind_4 rfl ?_
  refine g_Tk_current X k_Tk_36 d_Tk_kind_5 ?_
  refine l_Tk_kinds X (by first | omega | (dsimp only; omega) | (simp only [] at *; omega)) d_Tk_kind_8 ?_
  refine V.eqs (sk' := [.ref (ek z k)]) (by rw [hT]; rfl) ?_
  exact V.aret X d_Tk_kind_9 rfl rfl
set_option maxHeartbeats 4000000 in
set_option maxRecDepth 100000 in
theorem c_Tk_place {l : Launch} {z : Zt} {a u w : Nat → Nat} {P : Pm} {F : Int32} {T : Tk} {N : Nm} {C D : Co} {M : Mc} (h : Nat) (hc : T.2.2.2.2.2.2 < 151) : XC l (Gz z) (h) y_Tk_place b_Tk_place 1 (some .int) [.ref (a 3)] (cw z a u w P F T N C D M) (.inl (some (.int (nI (T.2.1 T.2.2.2.2.2.2))))) (cw z a u w P F T N C D M) := by
  refine XC.ofV (by decide +kernel) rfl ?_
  intro p e s m below meth c X hnm
  refine V.lvs (lv' := [(0, .ref (a 3))]) rfl ?_
  refine V.aload_n X d_Tk_place_0 rfl ?_
  refine g_Tk_places X k_Tk_17 d_Tk_place_1 ?_
  refine V.aload_n X d_Tk_place_4 rfl ?_
  refine g_Tk_current X k_Tk_36 d_Tk_place_5 ?_
  refine l_Tk_places X (by first | omega | (dsimp only; omega) | (simp only [] at *; omega)) d_Tk_place_8 ?_
  exact V.iret X d_Tk_place_9 rfl rfl
set_option maxHeartbeats 4000000 in
set_option maxRecDepth 100000 in
theorem c_Tk_content {l : Launch} {z : Zt} {a u w : Nat → Nat} {P : Pm} {F : Int32} {T : Tk} {N : Nm} {C D : Co} {M : Mc} (h : Nat) (hc : T.2.2.2.2.2.2 < 151) : XC l (Gz z) (h) y_Tk_content b_Tk_content 1 (some .long) [.ref (a 3)] (cw z a u w P F T N C D M) (.inl (some (.long (T.2.2.1 T.2.2.2.2.2.2)))) (cw z a u w P F T N C D M) := by
  refine XC.ofV (by decide +kernel) rfl ?_
  intro p e s m below meth c X hnm
  refine V.lvs (lv' := [(0, .ref (a 3))]) rfl ?_
  refine V.aload_n X d_Tk_content_0 rfl ?_
  refine g_Tk_contents X k_Tk_21 d_Tk_content_1 ?_
  refine V.aload_n X d_Tk_content_4 rfl ?_
  refine g_Tk_current X k_Tk_36 d_Tk_content_5 ?_
  refine l_Tk_contents X (by first | omega | (dsimp only; omega) | (simp only [] at *; omega)) d_Tk_content_8 ?_
  exact V.lret X d_Tk_content_9 rfl rfl
def tk_adv (c : Nat) : Nat := if 150 ≤ c then c else c + 1
def tk_at (T : Tk) (c : Nat) : Tk := (T.1, T.2.1, T.2.2.1, T.2.2.2.1, T.2.2.2.2.1, T.2.2.2.2.2.1, c)
set_option maxHeartbeats 4000000 in
set_option maxRecDepth 100000 in
theorem c_Tk_advance {l : Launch} {z : Zt} {a u w : Nat → Nat} {P : Pm} {F : Int32} {T : Tk} {N : Nm} {C D : Co} {M : Mc} (h : Nat) (hc : T.2.2.2.2.2.2 < 151) : XC l (Gz z) (h) y_Tk_advance b_Tk_advance 1 none [.ref (a 3)] (cw z a u w P F T N C D M) (.inl none) (cw z a u w P F (tk_at T (tk_adv T.2.2.2.2.2.2)) N C D M) := by
  refine XC.ofV (by decide +kernel) rfl ?_
  intro p e s m below meth c X hnm
  refine V.lvs (lv' := [(0, .ref (a 3))]) rfl ?_
  refine V.aload_n X d_Tk_advance_0 rfl ?_
  refine g_Tk_current X k_Tk_36 d_Tk_advance_1 ?_
  refine V.sipush (v := nI 150) X d_Tk_advance_4 (by decide +kernel) ?_
  refine V.cmpN_ge (tgt := 20) X d_Tk_advance_7 (by decide) (by first | omega | (dsimp only; omega) | (simp only [] at *; omega)) (by first | omega | (dsimp only; omega) | (simp only [] at *; omega)) (fun h7 => ?_) (fun h7 => ?_)
  · rw [tk_adv, if_pos h7]
    exact V.vret X d_Tk_advance_20 rfl rfl
  · rw [tk_adv, if_neg (Nat.not_le.mpr h7)]
    refine V.aload_n X d_Tk_advance_10 rfl ?_
    refine V.dup X d_Tk_advance_11 rfl ?_
    refine g_Tk_current X k_Tk_36 d_Tk_advance_12 ?_
    refine V.iconst (v := nI 1) X d_Tk_advance_15 (by decide +kernel) ?_
    refine V.iadd X d_Tk_advance_16 (nI_add _ _) ?_
    refine p_Tk_current X k_Tk_36 d_Tk_advance_17 ?_
    exact V.vret X d_Tk_advance_20 rfl rfl
set_option maxHeartbeats 4000000 in
set_option maxRecDepth 100000 in
theorem c_Tk_accept {l : Launch} {z : Zt} {a u w : Nat → Nat} {P : Pm} {F : Int32} {T : Tk} {N : Nm} {C D : Co} {M : Mc} (h : Nat) {k q : Nat} (hc : T.2.2.2.2.2.2 < 151) (hT : T.1 T.2.2.2.2.2.2 = some k) (hk : k < 29) (hq : q < 29) : XC l (Gz z) (h + 1) y_Tk_accept b_Tk_accept 2 (some .boolean) [.ref (a 3), .ref (ek z q)] (cw z a u w P F T N C D M) (.inl (some (.int (bI (decide (k = q)))))) (cw z a u w P F (if k = q then tk_at T (tk_adv T.2.2.2.2.2.2) else T) N C D M) := by
  refine XC.ofV (by decide +kernel) rfl ?_
  intro p e s m below meth c X hnm
  refine V.lvs (lv' := [(0, .ref (a 3)), (1, .ref (ek z q))]) rfl ?_
  refine V.aload_n X d_Tk_accept_0 rfl ?_
  refine g_Tk_kinds X k_Tk_11 d_Tk_accept_1 ?_
  refine V.aload_n X d_Tk_accept_4 rfl ?_
  refine g_Tk_current X k_Tk_36 d_Tk_accept_5 ?_
  refine l_Tk_kinds X (by first | omega | (dsimp only; omega) | (simp only [] at *; omega)) d_Tk_accept_8 ?_
  refine V.eqs (sk' := [.ref (ek z k)]) (by rw [hT]; rfl) ?_
  refine V.aload_n X d_Tk_accept_9 rfl ?_
  refine V.acmp_eq (tgt := 15) X d_Tk_accept_10 (by decide) (fun h10 => ?_) (fun h10 => ?_)
  · have hkq := ek_inj X.kk hk hq h10
    rw [if_pos hkq, decide_eq_true hkq]
    refine V.aload_n X d_Tk_accept_15 rfl ?_
    refine V.callV0 X (c_Tk_advance h hc) Y_Tk_advance k_Tk_108 3 rfl rfl rfl rfl rfl (Rok.lt (by omega)) d_Tk_accept_16 ?_
    refine V.iconst (v := nI 1) X d_Tk_accept_19 (by decide +kernel) ?_
    exact V.zret X d_Tk_accept_20 (by first | exact Or.inl rfl | exact Or.inr rfl | (unfold bI; split; exact Or.inr rfl; exact Or.inl rfl)) rfl rfl
  · have hkq : k ≠ q := fun e => h10 (by rw [e])
    rw [if_neg hkq, decide_eq_false hkq]
    refine V.iconst (v := nI 0) X d_Tk_accept_13 (by decide +kernel) ?_
    exact V.zret X d_Tk_accept_14 (by first | exact Or.inl rfl | exact Or.inr rfl | (unfold bI; split; exact Or.inr rfl; exact Or.inl rfl)) rfl rfl
set_option maxHeartbeats 4000000 in
set_option maxRecDepth 100000 in
theorem c_Tk_isBefore {l : Launch} {z : Zt} {a u w : Nat → Nat} {P : Pm} {F : Int32} {T : Tk} {N : Nm} {C D : Co} {M : Mc} (h : Nat) {k q : Nat} (hc : T.2.2.2.2.2.2 < 150) (hT : T.1 (T.2.2.2.2.2.2 + 1) = some k) (hk : k < 29) (hq : q < 29) : XC l (Gz z) (h) y_Tk_isBefore b_Tk_isBefore 2 (some .boolean) [.ref (a 3), .ref (ek z q)] (cw z a u w P F T N C D M) (.inl (some (.int (bI (decide (k = q)))))) (cw z a u w P F T N C D M) := by
  refine XC.ofV (by decide +kernel) rfl ?_
  intro p e s m below meth c X hnm
  refine V.lvs (lv' := [(0, .ref (a 3)), (1, .ref (ek z q))]) rfl ?_
  refine V.aload_n X d_Tk_isBefore_0 rfl ?_
  refine g_Tk_current X k_Tk_36 d_Tk_isBefore_1 ?_
  refine V.sipush (v := nI 150) X d_Tk_isBefore_4 (by decide +kernel) ?_
  refine V.cmpN_ge (tgt := 29) X d_Tk_isBefore_7 (by decide) (by first | omega | (dsimp only; omega) | (simp only [] at *; omega)) (by first | omega | (dsimp only; omega) | (simp only [] at *; omega)) (fun h7 => absurd h7 (by omega)) (fun h7 => ?_)
  refine V.aload_n X d_Tk_isBefore_10 rfl ?_
  refine g_Tk_kinds X k_Tk_11 d_Tk_isBefore_11 ?_
  refine V.aload_n X d_Tk_isBefore_14 rfl ?_
  refine g_Tk_current X k_Tk_36 d_Tk_isBefore_15 ?_
  refine V.iconst (v := nI 1) X d_Tk_isBefore_18 (by decide +kernel) ?_
  refine V.iadd X d_Tk_isBefore_19 (nI_add _ _) ?_
  refine l_Tk_kinds X (by first | omega | (dsimp only; omega) | (simp only [] at *; omega)) d_Tk_isBefore_20 ?_
  refine V.eqs (sk' := [.ref (ek z k)]) (by rw [hT]; rfl) ?_
  refine V.aload_n X d_Tk_isBefore_21 rfl ?_
  refine V.acmp_ne (tgt := 29) X d_Tk_isBefore_22 (by decide) (fun h22 => ?_) (fun h22 => ?_)
  · have hkq : k ≠ q := fun e => h22 (by rw [e])
    rw [decide_eq_false hkq]
    refine V.iconst (v := nI 0) X d_Tk_isBefore_29 (by decide +kernel) ?_
    exact V.zret X d_Tk_isBefore_30 (by first | exact Or.inl rfl | exact Or.inr rfl | (unfold bI; split; exact Or.inr rfl; exact Or.inl rfl)) rfl rfl
  · have hkq := ek_inj X.kk hk hq h22
    rw [decide_eq_true hkq]
    refine V.iconst (v := nI 1) X d_Tk_isBefore_25 (by decide +kernel) ?_
    refine V.goto (tgt := 30) X d_Tk_isBefore_26 (by decide) ?_
    exact V.zret X d_Tk_isBefore_30 (by first | exact Or.inl rfl | exact Or.inr rfl | (unfold bI; split; exact Or.inr rfl; exact Or.inl rfl)) rfl rfl
