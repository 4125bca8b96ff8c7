/-! ===== Names ===== -/
def jI : Nat → Int32
  | 0 => -1
  | j + 1 => nI j
theorem jI_sub (k : Nat) : nI k - nI 1 = jI k := by
  cases k with
  | zero => decide +kernel
  | succ j => exact nI_pred j
theorem jI_dec (k : Nat) : nI k + Int32.ofInt (-1) = jI k := by
  cases k with
  | zero => decide +kernel
  | succ j => exact pk_m1 j
def fI : Option Nat → Int32
  | none => -1
  | some k => nI k
theorem lg_eq0 {x y : Int64} : lg_cmp x y = 0 ↔ x = y := by
  unfold lg_cmp
  constructor
  · intro h
    split at h
    · exact absurd h (by decide)
    · split at h
      · assumption
      · exact absurd h (by decide)
  · intro h
    subst h
    rw [if_neg (by simp), if_pos rfl]
def nm_clear (N : Nm) : Nm := (N.1, N.2.1, N.2.2.1, N.2.2.2.1, va_up N.2.2.2.2.1 0 0, 0, 0, 0, 0)
set_option maxHeartbeats 4000000 in
set_option maxRecDepth 100000 in
theorem c_Nm_clear {l : Launch} {z : Zt} {a u w : Nat → Nat} {P : Pm} {F : Int32} {T : Tk} {N : Nm} {C D : Co} {M : Mc} (h : Nat)  : XC l (Gz z) (h) y_Nm_clear b_Nm_clear 1 none [.ref (a 7)] (cw z a u w P F T N C D M) (.inl none) (cw z a u w P F T (nm_clear N) C D M) := by
  refine XC.ofV (by decide +kernel) rfl ?_
  intro p e s m below meth c X hnm
  refine V.lvs (lv' := [(0, .ref (a 7))]) rfl ?_
  refine V.aload_n X d_Nm_clear_0 rfl ?_
  refine V.iconst (v := nI 0) X d_Nm_clear_1 (by decide +kernel) ?_
  refine p_Nm_known X k_Nm_28 d_Nm_clear_2 ?_
  refine V.aload_n X d_Nm_clear_5 rfl ?_
  refine V.iconst (v := nI 0) X d_Nm_clear_6 (by decide +kernel) ?_
  refine p_Nm_level X k_Nm_32 d_Nm_clear_7 ?_
  refine V.aload_n X d_Nm_clear_10 rfl ?_
  refine g_Nm_slots X k_Nm_25 d_Nm_clear_11 ?_
  refine V.aload_n X d_Nm_clear_14 rfl ?_
  refine g_Nm_level X k_Nm_32 d_Nm_clear_15 ?_
  refine V.iconst (v := nI 0) X d_Nm_clear_18 (by decide +kernel) ?_
  refine s_Nm_slots X (by first | omega | (dsimp only; omega) | (simp only [] at *; omega)) d_Nm_clear_19 ?_
  refine V.aload_n X d_Nm_clear_20 rfl ?_
  refine V.iconst (v := nI 0) X d_Nm_clear_21 (by decide +kernel) ?_
  refine p_Nm_variables X k_Nm_35 d_Nm_clear_22 ?_
  refine V.aload_n X d_Nm_clear_25 rfl ?_
  refine V.iconst (v := nI 0) X d_Nm_clear_26 (by decide +kernel) ?_
  refine p_Nm_procedures X k_Nm_38 d_Nm_clear_27 ?_
  exact V.vret X d_Nm_clear_30 rfl rfl
set_option maxHeartbeats 4000000 in
set_option maxRecDepth 100000 in
theorem c_Nm_declared {l : Launch} {z : Zt} {a u w : Nat → Nat} {P : Pm} {F : Int32} {T : Tk} {N : Nm} {C D : Co} {M : Mc} (h : Nat)  : XC l (Gz z) (h) y_Nm_declared b_Nm_declared 1 (some .int) [.ref (a 7)] (cw z a u w P F T N C D M) (.inl (some (.int (nI (N.2.2.2.2.2.2.2.1 + N.2.2.2.2.2.2.2.2))))) (cw z a u w P F T N C D M) := by
  refine XC.ofV (by decide +kernel) rfl ?_
  intro p e s m below meth c X hnm
  refine V.lvs (lv' := [(0, .ref (a 7))]) rfl ?_
  refine V.aload_n X d_Nm_declared_0 rfl ?_
  refine g_Nm_variables X k_Nm_35 d_Nm_declared_1 ?_
  refine V.aload_n X d_Nm_declared_4 rfl ?_
  refine g_Nm_procedures X k_Nm_38 d_Nm_declared_5 ?_
  refine V.iadd X d_Nm_declared_8 (nI_add _ _) ?_
  exact V.iret X d_Nm_declared_9 rfl rfl
def nm_open (N : Nm) : Nm := if 3 ≤ N.2.2.2.2.2.2.1 then N else (N.1, N.2.1, N.2.2.1, N.2.2.2.1, va_up N.2.2.2.2.1 (N.2.2.2.2.2.2.1 + 1) 0, N.2.2.2.2.2.1, N.2.2.2.2.2.2.1 + 1, N.2.2.2.2.2.2.2.1, N.2.2.2.2.2.2.2.2)
set_option maxHeartbeats 4000000 in
set_option maxRecDepth 100000 in
theorem c_Nm_open {l : Launch} {z : Zt} {a u w : Nat → Nat} {P : Pm} {F : Int32} {T : Tk} {N : Nm} {C D : Co} {M : Mc} (h : Nat) (hl : N.2.2.2.2.2.2.1 < 2 ^ 31) : XC l (Gz z) (h) y_Nm_open b_Nm_open 1 none [.ref (a 7)] (cw z a u w P F T N C D M) (.inl none) (cw z a u w P F T (nm_open N) C D M) := by
  refine XC.ofV (by decide +kernel) rfl ?_
  intro p e s m below meth c X hnm
  refine V.lvs (lv' := [(0, .ref (a 7))]) rfl ?_
  refine V.aload_n X d_Nm_open_0 rfl ?_
  refine g_Nm_level X k_Nm_32 d_Nm_open_1 ?_
  refine V.iconst (v := nI 3) X d_Nm_open_4 (by decide +kernel) ?_
  refine V.cmpN_ge (tgt := 28) X d_Nm_open_5 (by decide) (by first | omega | (dsimp only; omega) | (simp only [] at *; omega)) (by first | omega | (dsimp only; omega) | (simp only [] at *; omega)) (fun h5 => ?_) (fun h5 => ?_)
  · exact V.vret X d_Nm_open_28 rfl (by rw [nm_open]; first | rw [if_pos h5] | rw [if_neg (Nat.not_le.mpr h5)])
  · refine V.aload_n X d_Nm_open_8 rfl ?_
    refine V.dup X d_Nm_open_9 rfl ?_
    refine g_Nm_level X k_Nm_32 d_Nm_open_10 ?_
    refine V.iconst (v := nI 1) X d_Nm_open_13 (by decide +kernel) ?_
    refine V.iadd X d_Nm_open_14 (nI_add _ _) ?_
    refine p_Nm_level X k_Nm_32 d_Nm_open_15 ?_
    refine V.aload_n X d_Nm_open_18 rfl ?_
    refine g_Nm_slots X k_Nm_25 d_Nm_open_19 ?_
    refine V.aload_n X d_Nm_open_22 rfl ?_
    refine g_Nm_level X k_Nm_32 d_Nm_open_23 ?_
    refine V.iconst (v := nI 0) X d_Nm_open_26 (by decide +kernel) ?_
    refine s_Nm_slots X (by first | omega | (dsimp only; omega) | (simp only [] at *; omega)) d_Nm_open_27 ?_
    exact V.vret X d_Nm_open_28 rfl (by rw [nm_open]; first | rw [if_pos h5] | rw [if_neg (Nat.not_le.mpr h5)])
set_option maxHeartbeats 4000000 in
set_option maxRecDepth 100000 in
theorem c_Nm_isProcedure {l : Launch} {z : Zt} {a u w : Nat → Nat} {P : Pm} {F : Int32} {T : Tk} {N : Nm} {C D : Co} {M : Mc} (h : Nat) {k : Nat} (hk : k < 18) (hb : N.2.1 k < 2 ^ 31) : XC l (Gz z) (h) y_Nm_isProcedure b_Nm_isProcedure 2 (some .boolean) [.ref (a 7), .int (nI k)] (cw z a u w P F T N C D M) (.inl (some (.int (bI (decide (N.2.1 k = 2)))))) (cw z a u w P F T N C D M) := by
  refine XC.ofV (by decide +kernel) rfl ?_
  intro p e s m below meth c X hnm
  refine V.lvs (lv' := [(0, .ref (a 7)), (1, .int (nI k))]) rfl ?_
  refine V.aload_n X d_Nm_isProcedure_0 rfl ?_
  refine g_Nm_kinds X k_Nm_15 d_Nm_isProcedure_1 ?_
  refine V.iload_n X d_Nm_isProcedure_4 rfl ?_
  refine l_Nm_kinds X (by first | omega | (dsimp only; omega) | (simp only [] at *; omega)) d_Nm_isProcedure_5 ?_
  refine V.iconst (v := nI 2) X d_Nm_isProcedure_6 (by decide +kernel) ?_
  refine V.cmpN_ne (tgt := 14) X d_Nm_isProcedure_7 (by decide) (by first | omega | (dsimp only; omega) | (simp only [] at *; omega)) (by first | omega | (dsimp only; omega) | (simp only [] at *; omega)) (fun h7 => ?_) (fun h7 => ?_)
  · refine V.iconst (v := nI 0) X d_Nm_isProcedure_14 (by decide +kernel) ?_
    exact V.zret X d_Nm_isProcedure_15 (by first | exact Or.inl rfl | exact Or.inr rfl | (unfold bI; split; exact Or.inr rfl; exact Or.inl rfl)) (by rw [bI]; simp [h7]) rfl
  · refine V.iconst (v := nI 1) X d_Nm_isProcedure_10 (by decide +kernel) ?_
    refine V.goto (tgt := 15) X d_Nm_isProcedure_11 (by decide) ?_
    exact V.zret X d_Nm_isProcedure_15 (by first | exact Or.inl rfl | exact Or.inr rfl | (unfold bI; split; exact Or.inr rfl; exact Or.inl rfl)) (by rw [bI]; simp [h7]) rfl
set_option maxHeartbeats 4000000 in
set_option maxRecDepth 100000 in
theorem c_Nm_isReference {l : Launch} {z : Zt} {a u w : Nat → Nat} {P : Pm} {F : Int32} {T : Tk} {N : Nm} {C D : Co} {M : Mc} (h : Nat) {k : Nat} (hk : k < 18) (hb : N.2.1 k < 2 ^ 31) : XC l (Gz z) (h) y_Nm_isReference b_Nm_isReference 2 (some .boolean) [.ref (a 7), .int (nI k)] (cw z a u w P F T N C D M) (.inl (some (.int (bI (decide (N.2.1 k = 1)))))) (cw z a u w P F T N C D M) := by
  refine XC.ofV (by decide +kernel) rfl ?_
  intro p e s m below meth c X hnm
  refine V.lvs (lv' := [(0, .ref (a 7)), (1, .int (nI k))]) rfl ?_
  refine V.aload_n X d_Nm_isReference_0 rfl ?_
  refine g_Nm_kinds X k_Nm_15 d_Nm_isReference_1 ?_
  refine V.iload_n X d_Nm_isReference_4 rfl ?_
  refine l_Nm_kinds X (by first | omega | (dsimp only; omega) | (simp only [] at *; omega)) d_Nm_isReference_5 ?_
  refine V.iconst (v := nI 1) X d_Nm_isReference_6 (by decide +kernel) ?_
  refine V.cmpN_ne (tgt := 14) X d_Nm_isReference_7 (by decide) (by first | omega | (dsimp only; omega) | (simp only [] at *; omega)) (by first | omega | (dsimp only; omega) | (simp only [] at *; omega)) (fun h7 => ?_) (fun h7 => ?_)
  · refine V.iconst (v := nI 0) X d_Nm_isReference_14 (by decide +kernel) ?_
    exact V.zret X d_Nm_isReference_15 (by first | exact Or.inl rfl | exact Or.inr rfl | (unfold bI; split; exact Or.inr rfl; exact Or.inl rfl)) (by rw [bI]; simp [h7]) rfl
  · refine V.iconst (v := nI 1) X d_Nm_isReference_10 (by decide +kernel) ?_
    refine V.goto (tgt := 15) X d_Nm_isReference_11 (by decide) ?_
    exact V.zret X d_Nm_isReference_15 (by first | exact Or.inl rfl | exact Or.inr rfl | (unfold bI; split; exact Or.inr rfl; exact Or.inl rfl)) (by rw [bI]; simp [h7]) rfl
set_option maxHeartbeats 4000000 in
set_option maxRecDepth 100000 in
theorem c_Nm_hops {l : Launch} {z : Zt} {a u w : Nat → Nat} {P : Pm} {F : Int32} {T : Tk} {N : Nm} {C D : Co} {M : Mc} (h : Nat) {k : Nat} (hk : k < 18) (hb : N.2.2.1 k ≤ N.2.2.2.2.2.2.1) : XC l (Gz z) (h) y_Nm_hops b_Nm_hops 2 (some .int) [.ref (a 7), .int (nI k)] (cw z a u w P F T N C D M) (.inl (some (.int (nI (N.2.2.2.2.2.2.1 - N.2.2.1 k))))) (cw z a u w P F T N C D M) := by
  refine XC.ofV (by decide +kernel) rfl ?_
  intro p e s m below meth c X hnm
  refine V.lvs (lv' := [(0, .ref (a 7)), (1, .int (nI k))]) rfl ?_
  refine V.aload_n X d_Nm_hops_0 rfl ?_
  refine g_Nm_level X k_Nm_32 d_Nm_hops_1 ?_
  refine V.aload_n X d_Nm_hops_4 rfl ?_
  refine g_Nm_levels X k_Nm_19 d_Nm_hops_5 ?_
  refine V.iload_n X d_Nm_hops_8 rfl ?_
  refine l_Nm_levels X (by first | omega | (dsimp only; omega) | (simp only [] at *; omega)) d_Nm_hops_9 ?_
  refine V.isub X d_Nm_hops_10 (pk_sub (by first | omega | (dsimp only; omega) | (simp only [] at *; omega))) ?_
  exact V.iret X d_Nm_hops_11 rfl rfl
set_option maxHeartbeats 4000000 in
set_option maxRecDepth 100000 in
theorem c_Nm_number {l : Launch} {z : Zt} {a u w : Nat → Nat} {P : Pm} {F : Int32} {T : Tk} {N : Nm} {C D : Co} {M : Mc} (h : Nat) {k : Nat} (hk : k < 18) : XC l (Gz z) (h) y_Nm_number b_Nm_number 2 (some .int) [.ref (a 7), .int (nI k)] (cw z a u w P F T N C D M) (.inl (some (.int (nI (N.2.2.2.1 k))))) (cw z a u w P F T N C D M) := by
  refine XC.ofV (by decide +kernel) rfl ?_
  intro p e s m below meth c X hnm
  refine V.lvs (lv' := [(0, .ref (a 7)), (1, .int (nI k))]) rfl ?_
  refine V.aload_n X d_Nm_number_0 rfl ?_
  refine g_Nm_numbers X k_Nm_22 d_Nm_number_1 ?_
  refine V.iload_n X d_Nm_number_4 rfl ?_
  refine l_Nm_numbers X (by first | omega | (dsimp only; omega) | (simp only [] at *; omega)) d_Nm_number_5 ?_
  exact V.iret X d_Nm_number_6 rfl rfl
set_option maxHeartbeats 4000000 in
set_option maxRecDepth 100000 in
theorem c_Nm_lastProcedure {l : Launch} {z : Zt} {a u w : Nat → Nat} {P : Pm} {F : Int32} {T : Tk} {N : Nm} {C D : Co} {M : Mc} (h : Nat) (hb : 1 ≤ N.2.2.2.2.2.2.2.2) : XC l (Gz z) (h) y_Nm_lastProcedure b_Nm_lastProcedure 1 (some .int) [.ref (a 7)] (cw z a u w P F T N C D M) (.inl (some (.int (nI (N.2.2.2.2.2.2.2.2 - 1))))) (cw z a u w P F T N C D M) := by
  refine XC.ofV (by decide +kernel) rfl ?_
  intro p e s m below meth c X hnm
  refine V.lvs (lv' := [(0, .ref (a 7))]) rfl ?_
  refine V.aload_n X d_Nm_lastProcedure_0 rfl ?_
  refine g_Nm_procedures X k_Nm_38 d_Nm_lastProcedure_1 ?_
  refine V.iconst (v := nI 1) X d_Nm_lastProcedure_4 (by decide +kernel) ?_
  refine V.isub X d_Nm_lastProcedure_5 (pk_sub (by first | omega | (dsimp only; omega) | (simp only [] at *; omega))) ?_
  exact V.iret X d_Nm_lastProcedure_6 rfl rfl
def nm_full (N : Nm) (k : Nat) : Bool := if k = 2 then decide (N.2.2.2.2.2.2.2.2 = 6) else decide (N.2.2.2.2.2.2.2.1 = 12)
set_option maxHeartbeats 4000000 in
set_option maxRecDepth 100000 in
theorem c_Nm_isFull {l : Launch} {z : Zt} {a u w : Nat → Nat} {P : Pm} {F : Int32} {T : Tk} {N : Nm} {C D : Co} {M : Mc} (h : Nat) {k : Nat} (hk : k < 2 ^ 31) (h1 : N.2.2.2.2.2.2.2.2 < 2 ^ 31) (h2 : N.2.2.2.2.2.2.2.1 < 2 ^ 31) : XC l (Gz z) (h) y_Nm_isFull b_Nm_isFull 2 (some .boolean) [.ref (a 7), .int (nI k)] (cw z a u w P F T N C D M) (.inl (some (.int (bI (nm_full N k))))) (cw z a u w P F T N C D M) := by
  refine XC.ofV (by decide +kernel) rfl ?_
  intro p e s m below meth c X hnm
  refine V.lvs (lv' := [(0, .ref (a 7)), (1, .int (nI k))]) rfl ?_
  refine V.iload_n X d_Nm_isFull_0 rfl ?_
  refine V.iconst (v := nI 2) X d_Nm_isFull_1 (by decide +kernel) ?_
  refine V.cmpN_ne (tgt := 22) X d_Nm_isFull_2 (by decide) (by first | omega | (dsimp only; omega) | (simp only [] at *; omega)) (by first | omega | (dsimp only; omega) | (simp only [] at *; omega)) (fun h2 => ?_) (fun h2 => ?_)
  · refine V.aload_n X d_Nm_isFull_22 rfl ?_
    refine g_Nm_variables X k_Nm_35 d_Nm_isFull_23 ?_
    refine V.bipush (v := nI 12) X d_Nm_isFull_26 (by decide +kernel) ?_
    refine V.cmpN_ne (tgt := 35) X d_Nm_isFull_28 (by decide) (by first | omega | (dsimp only; omega) | (simp only [] at *; omega)) (by first | omega | (dsimp only; omega) | (simp only [] at *; omega)) (fun h28 => ?_) (fun h28 => ?_)
    · refine V.iconst (v := nI 0) X d_Nm_isFull_35 (by decide +kernel) ?_
      exact V.zret X d_Nm_isFull_36 (by first | exact Or.inl rfl | exact Or.inr rfl | (unfold bI; split; exact Or.inr rfl; exact Or.inl rfl)) (by simp [bI, nm_full, *]) rfl
    · refine V.iconst (v := nI 1) X d_Nm_isFull_31 (by decide +kernel) ?_
      refine V.goto (tgt := 36) X d_Nm_isFull_32 (by decide) ?_
      exact V.zret X d_Nm_isFull_36 (by first | exact Or.inl rfl | exact Or.inr rfl | (unfold bI; split; exact Or.inr rfl; exact Or.inl rfl)) (by simp [bI, nm_full, *]) rfl
  · refine V.aload_n X d_Nm_isFull_5 rfl ?_
    refine g_Nm_procedures X k_Nm_38 d_Nm_isFull_6 ?_
    refine V.bipush (v := nI 6) X d_Nm_isFull_9 (by decide +kernel) ?_
    refine V.cmpN_ne (tgt := 18) X d_Nm_isFull_11 (by decide) (by first | omega | (dsimp only; omega) | (simp only [] at *; omega)) (by first | omega | (dsimp only; omega) | (simp only [] at *; omega)) (fun h11 => ?_) (fun h11 => ?_)
    · refine V.iconst (v := nI 0) X d_Nm_isFull_18 (by decide +kernel) ?_
      refine V.goto (tgt := 36) X d_Nm_isFull_19 (by decide) ?_
      exact V.zret X d_Nm_isFull_36 (by first | exact Or.inl rfl | exact Or.inr rfl | (unfold bI; split; exact Or.inr rfl; exact Or.inl rfl)) (by simp [bI, nm_full, *]) rfl
    · refine V.iconst (v := nI 1) X d_Nm_isFull_14 (by decide +kernel) ?_
      refine V.goto (tgt := 36) X d_Nm_isFull_15 (by decide) ?_
      exact V.zret X d_Nm_isFull_36 (by first | exact Or.inl rfl | exact Or.inr rfl | (unfold bI; split; exact Or.inr rfl; exact Or.inl rfl)) (by simp [bI, nm_full, *]) rfl
def nm_findAt (N : Nm) (v : Int64) : Nat → Option Nat
  | 0 => none
  | j + 1 => if N.1 j = v then some j else nm_findAt N v j
def nm_find (N : Nm) (v : Int64) : Option Nat := nm_findAt N v N.2.2.2.2.2.1
set_option maxHeartbeats 4000000 in
set_option maxRecDepth 100000 in
theorem c_Nm_find {l : Launch} {z : Zt} {a u w : Nat → Nat} {P : Pm} {F : Int32} {T : Tk} {N : Nm} {C D : Co} {M : Mc} (h : Nat) {v : Int64} (hk : N.2.2.2.2.2.1 ≤ 18) : XC l (Gz z) (h) y_Nm_find b_Nm_find 4 (some .int) [.ref (a 7), .long v] (cw z a u w P F T N C D M) (.inl (some (.int (fI (nm_find N v))))) (cw z a u w P F T N C D M) := by
  refine XC.ofV (by decide +kernel) rfl ?_
  intro p e s m below meth c X hnm
  refine V.lvs (lv' := [(0, .ref (a 7)), (1, .long v)]) rfl ?_
  refine V.aload_n X d_Nm_find_0 rfl ?_
  refine g_Nm_known X k_Nm_28 d_Nm_find_1 ?_
  refine V.iconst (v := nI 1) X d_Nm_find_4 (by decide +kernel) ?_
  refine V.isub X d_Nm_find_5 (jI_sub _) ?_
  refine V.istore_n (lv' := [(0, _), (1, _), (3, _)]) X d_Nm_find_6 (by decide) rfl ?_
  suffices loop7 : ∀ j : Nat, j ≤ N.2.2.2.2.2.1 → V p l e (Rm (h)) s m ([.ref (a 7), .long v] : List Value).toArray below meth c (Gz z) 4 0 0 (XE below (Gz z) (.inl (some (.int (fI (nm_findAt N v j))))) (cw z a u w P F T N C D M) ([.ref (a 7), .long v] : List Value).toArray s) (cw z a u w P F T N C D M) 7 [(0, .ref (a 7)), (1, .long v), (3, .int (jI j))] [] from loop7 N.2.2.2.2.2.1 (Nat.le_refl _)
  intro j
  induction j with
  | zero =>
    intro hj
    refine V.lvs (lv' := [(0, .ref (a 7)), (1, .long v), (3, .int (-1))]) rfl ?_
    refine V.iload_n X d_Nm_find_7 rfl ?_
    refine V.if_lt (tgt := 30) X d_Nm_find_8 (by decide) (fun _ => ?_) (fun h => absurd (by decide) h)
    refine V.iconst (v := -1) X d_Nm_find_30 (by decide +kernel) ?_
    exact V.iret X d_Nm_find_31 rfl rfl
  | succ j ih =>
    intro hj
    refine V.lvs (lv' := [(0, .ref (a 7)), (1, .long v), (3, .int (nI j))]) rfl ?_
    refine V.iload_n X d_Nm_find_7 rfl ?_
    refine V.ifN_lt (tgt := 30) X d_Nm_find_8 (by decide) (by first | omega | (dsimp only; omega) | (simp only [] at *; omega)) ?_
    refine V.aload_n X d_Nm_find_11 rfl ?_
    refine g_Nm_words X k_Nm_9 d_Nm_find_12 ?_
    refine V.iload_n X d_Nm_find_15 rfl ?_
    refine l_Nm_words X (by first | omega | (dsimp only; omega) | (simp only [] at *; omega)) d_Nm_find_16 ?_
    refine V.lload_n X d_Nm_find_17 rfl ?_
    refine V.lcmp X d_Nm_find_18 rfl ?_
    refine V.if_ne (tgt := 24) X d_Nm_find_19 (by decide) (fun h19 => ?_) (fun h19 => ?_)
    · rw [show nm_findAt N v (j + 1) = nm_findAt N v j from if_neg (fun q => h19 (lg_eq0.mpr q))]
      refine V.iinc (lv' := [(0, _), (1, _), (3, _)]) X d_Nm_find_24 rfl (jI_dec _) (by decide) rfl ?_
      refine V.goto (tgt := 7) X d_Nm_find_27 (by decide) ?_
      exact ih (by omega)
    · rw [show nm_findAt N v (j + 1) = some j from if_pos (lg_eq0.mp h19)]
      refine V.iload_n X d_Nm_find_22 rfl ?_
      exact V.iret X d_Nm_find_23 rfl rfl
def nm_cut (N : Nm) : Nat → Nat
  | 0 => 0
  | k + 1 => if N.2.2.1 k = N.2.2.2.2.2.2.1 then nm_cut N k else k + 1
def nm_close (N : Nm) : Nm := (N.1, N.2.1, N.2.2.1, N.2.2.2.1, N.2.2.2.2.1, nm_cut N N.2.2.2.2.2.1, N.2.2.2.2.2.2.1 - 1, N.2.2.2.2.2.2.2.1, N.2.2.2.2.2.2.2.2)
set_option maxHeartbeats 4000000 in
set_option maxRecDepth 100000 in
theorem c_Nm_close {l : Launch} {z : Zt} {a u w : Nat → Nat} {P : Pm} {F : Int32} {T : Tk} {N : Nm} {C D : Co} {M : Mc} (h : Nat) (hk : N.2.2.2.2.2.1 ≤ 18) (hl : ∀ i, N.2.2.1 i < 2 ^ 31) (h1 : 1 ≤ N.2.2.2.2.2.2.1) (h2 : N.2.2.2.2.2.2.1 < 2 ^ 31) : XC l (Gz z) (h) y_Nm_close b_Nm_close 1 none [.ref (a 7)] (cw z a u w P F T N C D M) (.inl none) (cw z a u w P F T (nm_close N) C D M) := by
  refine XC.ofV (by decide +kernel) rfl ?_
  intro p e s m below meth c X hnm
  refine V.lvs (lv' := [(0, .ref (a 7))]) rfl ?_
  suffices loop0 : ∀ k : Nat, k ≤ N.2.2.2.2.2.1 → V p l e (Rm (h)) s m ([.ref (a 7)] : List Value).toArray below meth c (Gz z) 1 0 0 (XE below (Gz z) (.inl none) (cw z a u w P F T (N.1, N.2.1, N.2.2.1, N.2.2.2.1, N.2.2.2.2.1, nm_cut N k, N.2.2.2.2.2.2.1 - 1, N.2.2.2.2.2.2.2.1, N.2.2.2.2.2.2.2.2) C D M) ([.ref (a 7)] : List Value).toArray s) (cw z a u w P F T (N.1, N.2.1, N.2.2.1, N.2.2.2.1, N.2.2.2.2.1, k, N.2.2.2.2.2.2.1, N.2.2.2.2.2.2.2.1, N.2.2.2.2.2.2.2.2) C D M) 0 [(0, .ref (a 7))] [] from loop0 N.2.2.2.2.2.1 (Nat.le_refl _)
  intro k
  induction k with
  | zero =>
    intro hj
    refine V.aload_n X d_Nm_close_0 rfl ?_
    refine g_Nm_known X k_Nm_28 d_Nm_close_1 ?_
    refine V.ifN_le (tgt := 38) X d_Nm_close_4 (by decide) (by first | omega | (dsimp only; omega) | (simp only [] at *; omega)) (fun h4 => ?_) (fun h4 => absurd h4 (fun q => q rfl))
    refine V.aload_n X d_Nm_close_38 rfl ?_
    refine V.dup X d_Nm_close_39 rfl ?_
    refine g_Nm_level X k_Nm_32 d_Nm_close_40 ?_
    refine V.iconst (v := nI 1) X d_Nm_close_43 (by decide +kernel) ?_
    refine V.isub X d_Nm_close_44 (pk_sub (by first | omega | (dsimp only; omega) | (simp only [] at *; omega))) ?_
    refine p_Nm_level X k_Nm_32 d_Nm_close_45 ?_
    exact V.vret X d_Nm_close_48 rfl rfl
  | succ k ih =>
    intro hj
    have hlk : N.2.2.1 (k + 1 - 1) < 2 ^ 31 := hl _
    refine V.aload_n X d_Nm_close_0 rfl ?_
    refine g_Nm_known X k_Nm_28 d_Nm_close_1 ?_
    refine V.ifN_le (tgt := 38) X d_Nm_close_4 (by decide) (by first | omega | (dsimp only; omega) | (simp only [] at *; omega)) (fun h4 => absurd h4 (by dsimp only; omega)) (fun h4 => ?_)
    refine V.aload_n X d_Nm_close_7 rfl ?_
    refine g_Nm_levels X k_Nm_19 d_Nm_close_8 ?_
    refine V.aload_n X d_Nm_close_11 rfl ?_
    refine g_Nm_known X k_Nm_28 d_Nm_close_12 ?_
    refine V.iconst (v := nI 1) X d_Nm_close_15 (by decide +kernel) ?_
    refine V.isub X d_Nm_close_16 (pk_sub (by first | omega | (dsimp only; omega) | (simp only [] at *; omega))) ?_
    refine l_Nm_levels X (by first | omega | (dsimp only; omega) | (simp only [] at *; omega)) d_Nm_close_17 ?_
    refine V.aload_n X d_Nm_close_18 rfl ?_
    refine g_Nm_level X k_Nm_32 d_Nm_close_19 ?_
    refine V.cmpN_ne (tgt := 38) X d_Nm_close_22 (by decide) (by first | omega | (dsimp only; omega) | (simp only [] at *; omega)) (by first | omega | (dsimp only; omega) | (simp only [] at *; omega)) (fun h22 => ?_) (fun h22 => ?_)
    · rw [show nm_cut N (k + 1) = k + 1 from if_neg h22]
      refine V.aload_n X d_Nm_close_38 rfl ?_
      refine V.dup X d_Nm_close_39 rfl ?_
      refine g_Nm_level X k_Nm_32 d_Nm_close_40 ?_
      refine V.iconst (v := nI 1) X d_Nm_close_43 (by decide +kernel) ?_
      refine V.isub X d_Nm_close_44 (pk_sub (by first | omega | (dsimp only; omega) | (simp only [] at *; omega))) ?_
      refine p_Nm_level X k_Nm_32 d_Nm_close_45 ?_
      exact V.vret X d_Nm_close_48 rfl rfl
    · rw [show nm_cut N (k + 1) = nm_cut N k from if_pos h22]
      refine V.aload_n X d_Nm_close_25 rfl ?_
      refine V.dup X d_Nm_close_26 rfl ?_
      refine g_Nm_known X k_Nm_28 d_Nm_close_27 ?_
      refine V.iconst (v := nI 1) X d_Nm_close_30 (by decide +kernel) ?_
      refine V.isub X d_Nm_close_31 (pk_sub (by first | omega | (dsimp only; omega) | (simp only [] at *; omega))) ?_
      refine p_Nm_known X k_Nm_28 d_Nm_close_32 ?_
      refine V.goto (tgt := 0) X d_Nm_close_35 (by decide) ?_
      exact ih (by omega)
theorem c_Nm_find_none {l : Launch} {z : Zt} {a u w : Nat → Nat} {P : Pm} {F : Int32} {T : Tk} {N : Nm} {C D : Co} {M : Mc} (h : Nat) {v : Int64} (hk : N.2.2.2.2.2.1 ≤ 18) (hf : nm_find N v = none) : XC l (Gz z) h y_Nm_find b_Nm_find 4 (some .int) [.ref (a 7), .long v] (cw z a u w P F T N C D M) (.inl (some (.int (-1)))) (cw z a u w P F T N C D M) := by
  have q := c_Nm_find (l := l) (z := z) (a := a) (u := u) (w := w) (P := P) (F := F) (T := T) (N := N) (C := C) (D := D) (M := M) h (v := v) hk
  rw [hf] at q
  exact q
theorem c_Nm_find_some {l : Launch} {z : Zt} {a u w : Nat → Nat} {P : Pm} {F : Int32} {T : Tk} {N : Nm} {C D : Co} {M : Mc} (h : Nat) {v : Int64} {i : Nat} (hk : N.2.2.2.2.2.1 ≤ 18) (hf : nm_find N v = some i) : XC l (Gz z) h y_Nm_find b_Nm_find 4 (some .int) [.ref (a 7), .long v] (cw z a u w P F T N C D M) (.inl (some (.int (nI i)))) (cw z a u w P F T N C D M) := by
  have q := c_Nm_find (l := l) (z := z) (a := a) (u := u) (w := w) (P := P) (F := F) (T := T) (N := N) (C := C) (D := D) (M := M) h (v := v) hk
  rw [hf] at q
  exact q
theorem nm_findAt_lt {N : Nm} {v : Int64} {i : Nat} : ∀ {j : Nat}, nm_findAt N v j = some i → i < j ∧ N.1 i = v := by
  intro j
  induction j with
  | zero => intro h; exact absurd h (by simp [nm_findAt])
  | succ j ih =>
    intro h
    unfold nm_findAt at h
    split at h
    · rename_i e
      cases h
      exact ⟨Nat.lt_succ_self _, e⟩
    · have := ih h
      exact ⟨Nat.lt_succ_of_lt this.1, this.2⟩
theorem nm_find_lt {N : Nm} {v : Int64} {i : Nat} (h : nm_find N v = some i) : i < N.2.2.2.2.2.1 ∧ N.1 i = v := nm_findAt_lt h
def nm_twice (N : Nm) (v : Int64) : Bool := match nm_find N v with
  | none => false
  | some i => decide (N.2.2.1 i = N.2.2.2.2.2.2.1)
def nm_add (N : Nm) (v : Int64) (k : Nat) : Nm :=
  if k = 2 then (va_up N.1 N.2.2.2.2.2.1 v, va_up N.2.1 N.2.2.2.2.2.1 k, va_up N.2.2.1 N.2.2.2.2.2.1 N.2.2.2.2.2.2.1, va_up N.2.2.2.1 N.2.2.2.2.2.1 N.2.2.2.2.2.2.2.2, N.2.2.2.2.1, N.2.2.2.2.2.1 + 1, N.2.2.2.2.2.2.1, N.2.2.2.2.2.2.2.1, N.2.2.2.2.2.2.2.2 + 1)
  else (va_up N.1 N.2.2.2.2.2.1 v, va_up N.2.1 N.2.2.2.2.2.1 k, va_up N.2.2.1 N.2.2.2.2.2.1 N.2.2.2.2.2.2.1, va_up N.2.2.2.1 N.2.2.2.2.2.1 (N.2.2.2.2.1 N.2.2.2.2.2.2.1), va_up N.2.2.2.2.1 N.2.2.2.2.2.2.1 (N.2.2.2.2.1 N.2.2.2.2.2.2.1 + 1), N.2.2.2.2.2.1 + 1, N.2.2.2.2.2.2.1, N.2.2.2.2.2.2.2.1 + 1, N.2.2.2.2.2.2.2.2)
def nm_declare (N : Nm) (v : Int64) (k : Nat) : Bool × Nm := if nm_twice N v || nm_full N k then (false, N) else (true, nm_add N v k)
set_option maxHeartbeats 4000000 in
set_option maxRecDepth 100000 in
theorem c_Nm_declare_none {l : Launch} {z : Zt} {a u w : Nat → Nat} {P : Pm} {F : Int32} {T : Tk} {N : Nm} {C D : Co} {M : Mc} (h : Nat) {v : Int64} {k : Nat} (hk2 : k < 2 ^ 31) (hk : N.2.2.2.2.2.1 ≤ N.2.2.2.2.2.2.2.1 + N.2.2.2.2.2.2.2.2) (hv : N.2.2.2.2.2.2.2.1 ≤ 12) (hp : N.2.2.2.2.2.2.2.2 ≤ 6) (hlv : N.2.2.2.2.2.2.1 < 4) (hf : nm_find N v = none) : XC l (Gz z) (h + 1) y_Nm_declare b_Nm_declare 6 (some .boolean) [.ref (a 7), .long v, .int (nI k)] (cw z a u w P F T N C D M) (.inl (some (.int (bI (nm_declare N v k).1)))) (cw z a u w P F T (nm_declare N v k).2 C D M) := by
  refine XC.ofV (by decide +kernel) rfl ?_
  intro p e s m below meth c X hnm
  refine V.lvs (lv' := [(0, .ref (a 7)), (1, .long v), (3, .int (nI k))]) rfl ?_
  refine V.aload_n X d_Nm_declare_0 rfl ?_
  refine V.lload_n X d_Nm_declare_1 rfl ?_
  refine V.callV1 X (c_Nm_find_none h (by omega) hf) Y_Nm_find k_Nm_41 7 rfl rfl rfl rfl rfl (Rok.lt (by omega)) d_Nm_declare_2 ?_
  refine V.istore (lv' := [(0, _), (1, _), (3, _), (4, _)]) X d_Nm_declare_5 (by decide) rfl ?_
  refine V.iload X d_Nm_declare_7 rfl ?_
  refine V.if_lt (tgt := 30) X d_Nm_declare_9 (by decide) (fun _ => ?_) (fun h => absurd (by decide) h)
  refine V.iconst (v := nI 0) X d_Nm_declare_30 (by decide +kernel) ?_
  refine V.istore (lv' := [(0, _), (1, _), (3, _), (4, _), (5, _)]) X d_Nm_declare_31 (by decide) rfl ?_
  refine V.iload X d_Nm_declare_33 rfl ?_
  refine V.ifN_ne (tgt := 46) X d_Nm_declare_35 (by decide) (by first | omega | (dsimp only; omega) | (simp only [] at *; omega)) (fun h35 => absurd h35 (fun q => q rfl)) (fun h35 => ?_)
  refine V.aload_n X d_Nm_declare_38 rfl ?_
  refine V.iload_n X d_Nm_declare_39 rfl ?_
  refine V.callV1 X (c_Nm_isFull h (by omega) (by omega) (by omega)) Y_Nm_isFull k_Nm_45 7 rfl rfl rfl rfl rfl (Rok.lt (by omega)) d_Nm_declare_40 ?_
  refine V.ifB_eq (tgt := 48) X d_Nm_declare_43 (by decide) (fun h43 => ?_) (fun h43 => ?_)
  · have hkn : N.2.2.2.2.2.1 < 18 := by simp only [nm_full] at h43; split at h43 <;> simp at h43 <;> omega
    have hkn2 : N.2.2.2.2.2.1 < 18 := hkn
    have hlv2 : N.2.2.2.2.2.2.1 < 4 := hlv
    rw [show nm_declare N v k = (true, nm_add N v k) from by simp [nm_declare, nm_twice, *]]
    refine V.aload_n X d_Nm_declare_48 rfl ?_
    refine g_Nm_words X k_Nm_9 d_Nm_declare_49 ?_
    refine V.aload_n X d_Nm_declare_52 rfl ?_
    refine g_Nm_known X k_Nm_28 d_Nm_declare_53 ?_
    refine V.lload_n X d_Nm_declare_56 rfl ?_
    refine s_Nm_words X (by first | omega | (dsimp only; omega) | (simp only [] at *; omega)) d_Nm_declare_57 ?_
    refine V.aload_n X d_Nm_declare_58 rfl ?_
    refine g_Nm_kinds X k_Nm_15 d_Nm_declare_59 ?_
    refine V.aload_n X d_Nm_declare_62 rfl ?_
    refine g_Nm_known X k_Nm_28 d_Nm_declare_63 ?_
    refine V.iload_n X d_Nm_declare_66 rfl ?_
    refine s_Nm_kinds X (by first | omega | (dsimp only; omega) | (simp only [] at *; omega)) d_Nm_declare_67 ?_
    refine V.aload_n X d_Nm_declare_68 rfl ?_
    refine g_Nm_levels X k_Nm_19 d_Nm_declare_69 ?_
    refine V.aload_n X d_Nm_declare_72 rfl ?_
    refine g_Nm_known X k_Nm_28 d_Nm_declare_73 ?_
    refine V.aload_n X d_Nm_declare_76 rfl ?_
    refine g_Nm_level X k_Nm_32 d_Nm_declare_77 ?_
    refine s_Nm_levels X (by first | omega | (dsimp only; omega) | (simp only [] at *; omega)) d_Nm_declare_80 ?_
    refine V.aload_n X d_Nm_declare_81 rfl ?_
    refine g_Nm_numbers X k_Nm_22 d_Nm_declare_82 ?_
    refine V.aload_n X d_Nm_declare_85 rfl ?_
    refine g_Nm_known X k_Nm_28 d_Nm_declare_86 ?_
    refine V.iload_n X d_Nm_declare_89 rfl ?_
    refine V.iconst (v := nI 2) X d_Nm_declare_90 (by decide +kernel) ?_
    refine V.cmpN_ne (tgt := 101) X d_Nm_declare_91 (by decide) (by first | omega | (dsimp only; omega) | (simp only [] at *; omega)) (by first | omega | (dsimp only; omega) | (simp only [] at *; omega)) (fun h91 => ?_) (fun h91 => ?_)
    · rw [nm_add, if_neg h91]
      refine V.aload_n X d_Nm_declare_101 rfl ?_
      refine g_Nm_slots X k_Nm_25 d_Nm_declare_102 ?_
      refine V.aload_n X d_Nm_declare_105 rfl ?_
      refine g_Nm_level X k_Nm_32 d_Nm_declare_106 ?_
      refine l_Nm_slots X (by first | omega | (dsimp only; omega) | (simp only [] at *; omega)) d_Nm_declare_109 ?_
      refine s_Nm_numbers X (by first | omega | (dsimp only; omega) | (simp only [] at *; omega)) d_Nm_declare_110 ?_
      refine V.aload_n X d_Nm_declare_111 rfl ?_
      refine V.dup X d_Nm_declare_112 rfl ?_
      refine g_Nm_known X k_Nm_28 d_Nm_declare_113 ?_
      refine V.iconst (v := nI 1) X d_Nm_declare_116 (by decide +kernel) ?_
      refine V.iadd X d_Nm_declare_117 (nI_add _ _) ?_
      refine p_Nm_known X k_Nm_28 d_Nm_declare_118 ?_
      refine V.iload_n X d_Nm_declare_121 rfl ?_
      refine V.iconst (v := nI 2) X d_Nm_declare_122 (by decide +kernel) ?_
      refine V.cmpN_ne (tgt := 139) X d_Nm_declare_123 (by decide) (by first | omega | (dsimp only; omega) | (simp only [] at *; omega)) (by first | omega | (dsimp only; omega) | (simp only [] at *; omega)) (fun h123 => ?_) (fun h123 => absurd h123 (h91))
      refine V.aload_n X d_Nm_declare_139 rfl ?_
      refine V.dup X d_Nm_declare_140 rfl ?_
      refine g_Nm_variables X k_Nm_35 d_Nm_declare_141 ?_
      refine V.iconst (v := nI 1) X d_Nm_declare_144 (by decide +kernel) ?_
      refine V.iadd X d_Nm_declare_145 (nI_add _ _) ?_
      refine p_Nm_variables X k_Nm_35 d_Nm_declare_146 ?_
      refine V.aload_n X d_Nm_declare_149 rfl ?_
      refine g_Nm_slots X k_Nm_25 d_Nm_declare_150 ?_
      refine V.aload_n X d_Nm_declare_153 rfl ?_
      refine g_Nm_level X k_Nm_32 d_Nm_declare_154 ?_
      refine V.dup2 X d_Nm_declare_157 rfl rfl ?_
      refine l_Nm_slots X (by first | omega | (dsimp only; omega) | (simp only [] at *; omega)) d_Nm_declare_158 ?_
      refine V.iconst (v := nI 1) X d_Nm_declare_159 (by decide +kernel) ?_
      refine V.iadd X d_Nm_declare_160 (nI_add _ _) ?_
      refine s_Nm_slots X (by first | omega | (dsimp only; omega) | (simp only [] at *; omega)) d_Nm_declare_161 ?_
      refine V.iconst (v := nI 1) X d_Nm_declare_162 (by decide +kernel) ?_
      exact V.zret X d_Nm_declare_163 (by first | exact Or.inl rfl | exact Or.inr rfl | (unfold bI; split; exact Or.inr rfl; exact Or.inl rfl)) rfl rfl
    · rw [nm_add, if_pos h91]
      refine V.aload_n X d_Nm_declare_94 rfl ?_
      refine g_Nm_procedures X k_Nm_38 d_Nm_declare_95 ?_
      refine V.goto (tgt := 110) X d_Nm_declare_98 (by decide) ?_
      refine s_Nm_numbers X (by first | omega | (dsimp only; omega) | (simp only [] at *; omega)) d_Nm_declare_110 ?_
      refine V.aload_n X d_Nm_declare_111 rfl ?_
      refine V.dup X d_Nm_declare_112 rfl ?_
      refine g_Nm_known X k_Nm_28 d_Nm_declare_113 ?_
      refine V.iconst (v := nI 1) X d_Nm_declare_116 (by decide +kernel) ?_
      refine V.iadd X d_Nm_declare_117 (nI_add _ _) ?_
      refine p_Nm_known X k_Nm_28 d_Nm_declare_118 ?_
      refine V.iload_n X d_Nm_declare_121 rfl ?_
      refine V.iconst (v := nI 2) X d_Nm_declare_122 (by decide +kernel) ?_
      refine V.cmpN_ne (tgt := 139) X d_Nm_declare_123 (by decide) (by first | omega | (dsimp only; omega) | (simp only [] at *; omega)) (by first | omega | (dsimp only; omega) | (simp only [] at *; omega)) (fun h123 => absurd h123 (fun q => q h91)) (fun h123 => ?_)
      refine V.aload_n X d_Nm_declare_126 rfl ?_
      refine V.dup X d_Nm_declare_127 rfl ?_
      refine g_Nm_procedures X k_Nm_38 d_Nm_declare_128 ?_
      refine V.iconst (v := nI 1) X d_Nm_declare_131 (by decide +kernel) ?_
      refine V.iadd X d_Nm_declare_132 (nI_add _ _) ?_
      refine p_Nm_procedures X k_Nm_38 d_Nm_declare_133 ?_
      refine V.goto (tgt := 162) X d_Nm_declare_136 (by decide) ?_
      refine V.iconst (v := nI 1) X d_Nm_declare_162 (by decide +kernel) ?_
      exact V.zret X d_Nm_declare_163 (by first | exact Or.inl rfl | exact Or.inr rfl | (unfold bI; split; exact Or.inr rfl; exact Or.inl rfl)) rfl rfl
  · rw [show nm_declare N v k = (false, N) from by simp [nm_declare, nm_twice, *]]
    refine V.iconst (v := nI 0) X d_Nm_declare_46 (by decide +kernel) ?_
    exact V.zret X d_Nm_declare_47 (by first | exact Or.inl rfl | exact Or.inr rfl | (unfold bI; split; exact Or.inr rfl; exact Or.inl rfl)) rfl rfl
set_option maxHeartbeats 4000000 in
set_option maxRecDepth 100000 in
theorem c_Nm_declare_some {l : Launch} {z : Zt} {a u w : Nat → Nat} {P : Pm} {F : Int32} {T : Tk} {N : Nm} {C D : Co} {M : Mc} (h : Nat) {v : Int64} {k : Nat} (hk2 : k < 2 ^ 31) (hk : N.2.2.2.2.2.1 ≤ N.2.2.2.2.2.2.2.1 + N.2.2.2.2.2.2.2.2) (hv : N.2.2.2.2.2.2.2.1 ≤ 12) (hp : N.2.2.2.2.2.2.2.2 ≤ 6) (hlv : N.2.2.2.2.2.2.1 < 4) (hlb : ∀ i, N.2.2.1 i < 2 ^ 31) {i : Nat} (hf : nm_find N v = some i) : XC l (Gz z) (h + 1) y_Nm_declare b_Nm_declare 6 (some .boolean) [.ref (a 7), .long v, .int (nI k)] (cw z a u w P F T N C D M) (.inl (some (.int (bI (nm_declare N v k).1)))) (cw z a u w P F T (nm_declare N v k).2 C D M) := by
  refine XC.ofV (by decide +kernel) rfl ?_
  intro p e s m below meth c X hnm
  refine V.lvs (lv' := [(0, .ref (a 7)), (1, .long v), (3, .int (nI k))]) rfl ?_
  refine V.aload_n X d_Nm_declare_0 rfl ?_
  refine V.lload_n X d_Nm_declare_1 rfl ?_
  refine V.callV1 X (c_Nm_find_some h (by omega) hf) Y_Nm_find k_Nm_41 7 rfl rfl rfl rfl rfl (Rok.lt (by omega)) d_Nm_declare_2 ?_
  refine V.istore (lv' := [(0, _), (1, _), (3, _), (4, _)]) X d_Nm_declare_5 (by decide) rfl ?_
  refine V.iload X d_Nm_declare_7 rfl ?_
  have hi : i < N.2.2.2.2.2.1 := (nm_find_lt hf).1
  have hln : N.2.2.1 i < 2 ^ 31 := hlb i
  have hll : N.2.2.2.2.2.2.1 < 4 := hlv
  refine V.ifN_lt (tgt := 30) X d_Nm_declare_9 (by decide) (by first | omega | (dsimp only; omega) | (simp only [] at *; omega)) ?_
  refine V.aload_n X d_Nm_declare_12 rfl ?_
  refine g_Nm_levels X k_Nm_19 d_Nm_declare_13 ?_
  refine V.iload X d_Nm_declare_16 rfl ?_
  refine l_Nm_levels X (by first | omega | (dsimp only; omega) | (simp only [] at *; omega)) d_Nm_declare_18 ?_
  refine V.aload_n X d_Nm_declare_19 rfl ?_
  refine g_Nm_level X k_Nm_32 d_Nm_declare_20 ?_
  refine V.cmpN_ne (tgt := 30) X d_Nm_declare_23 (by decide) (by first | omega | (dsimp only; omega) | (simp only [] at *; omega)) (by first | omega | (dsimp only; omega) | (simp only [] at *; omega)) (fun h23 => ?_) (fun h23 => ?_)
  · refine V.iconst (v := nI 0) X d_Nm_declare_30 (by decide +kernel) ?_
    refine V.istore (lv' := [(0, _), (1, _), (3, _), (4, _), (5, _)]) X d_Nm_declare_31 (by decide) rfl ?_
    refine V.iload X d_Nm_declare_33 rfl ?_
    refine V.ifN_ne (tgt := 46) X d_Nm_declare_35 (by decide) (by first | omega | (dsimp only; omega) | (simp only [] at *; omega)) (fun h35 => absurd h35 (fun q => q rfl)) (fun h35 => ?_)
    refine V.aload_n X d_Nm_declare_38 rfl ?_
    refine V.iload_n X d_Nm_declare_39 rfl ?_
    refine V.callV1 X (c_Nm_isFull h (by omega) (by omega) (by omega)) Y_Nm_isFull k_Nm_45 7 rfl rfl rfl rfl rfl (Rok.lt (by omega)) d_Nm_declare_40 ?_
    refine V.ifB_eq (tgt := 48) X d_Nm_declare_43 (by decide) (fun h43 => ?_) (fun h43 => ?_)
    · have hkn : N.2.2.2.2.2.1 < 18 := by simp only [nm_full] at h43; split at h43 <;> simp at h43 <;> omega
      have hkn2 : N.2.2.2.2.2.1 < 18 := hkn
      have hlv2 : N.2.2.2.2.2.2.1 < 4 := hlv
      rw [show nm_declare N v k = (true, nm_add N v k) from by simp [nm_declare, nm_twice, *]]
      refine V.aload_n X d_Nm_declare_48 rfl ?_
      refine g_Nm_words X k_Nm_9 d_Nm_declare_49 ?_
      refine V.aload_n X d_Nm_declare_52 rfl ?_
      refine g_Nm_known X k_Nm_28 d_Nm_declare_53 ?_
      refine V.lload_n X d_Nm_declare_56 rfl ?_
      refine s_Nm_words X (by first | omega | (dsimp only; omega) | (simp only [] at *; omega)) d_Nm_declare_57 ?_
      refine V.aload_n X d_Nm_declare_58 rfl ?_
      refine g_Nm_kinds X k_Nm_15 d_Nm_declare_59 ?_
      refine V.aload_n X d_Nm_declare_62 rfl ?_
      refine g_Nm_known X k_Nm_28 d_Nm_declare_63 ?_
      refine V.iload_n X d_Nm_declare_66 rfl ?_
      refine s_Nm_kinds X (by first | omega | (dsimp only; omega) | (simp only [] at *; omega)) d_Nm_declare_67 ?_
      refine V.aload_n X d_Nm_declare_68 rfl ?_
      refine g_Nm_levels X k_Nm_19 d_Nm_declare_69 ?_
      refine V.aload_n X d_Nm_declare_72 rfl ?_
      refine g_Nm_known X k_Nm_28 d_Nm_declare_73 ?_
      refine V.aload_n X d_Nm_declare_76 rfl ?_
      refine g_Nm_level X k_Nm_32 d_Nm_declare_77 ?_
      refine s_Nm_levels X (by first | omega | (dsimp only; omega) | (simp only [] at *; omega)) d_Nm_declare_80 ?_
      refine V.aload_n X d_Nm_declare_81 rfl ?_
      refine g_Nm_numbers X k_Nm_22 d_Nm_declare_82 ?_
      refine V.aload_n X d_Nm_declare_85 rfl ?_
      refine g_Nm_known X k_Nm_28 d_Nm_declare_86 ?_
      refine V.iload_n X d_Nm_declare_89 rfl ?_
      refine V.iconst (v := nI 2) X d_Nm_declare_90 (by decide +kernel) ?_
      refine V.cmpN_ne (tgt := 101) X d_Nm_declare_91 (by decide) (by first | omega | (dsimp only; omega) | (simp only [] at *; omega)) (by first | omega | (dsimp only; omega) | (simp only [] at *; omega)) (fun h91 => ?_) (fun h91 => ?_)
      · rw [nm_add, if_neg h91]
        refine V.aload_n X d_Nm_declare_101 rfl ?_
        refine g_Nm_slots X k_Nm_25 d_Nm_declare_102 ?_
        refine V.aload_n X d_Nm_declare_105 rfl ?_
        refine g_Nm_level X k_Nm_32 d_Nm_declare_106 ?_
        refine l_Nm_slots X (by first | omega | (dsimp only; omega) | (simp only [] at *; omega)) d_Nm_declare_109 ?_
        refine s_Nm_numbers X (by first | omega | (dsimp only; omega) | (simp only [] at *; omega)) d_Nm_declare_110 ?_
        refine V.aload_n X d_Nm_declare_111 rfl ?_
        refine V.dup X d_Nm_declare_112 rfl ?_
        refine g_Nm_known X k_Nm_28 d_Nm_declare_113 ?_
        refine V.iconst (v := nI 1) X d_Nm_declare_116 (by decide +kernel) ?_
        refine V.iadd X d_Nm_declare_117 (nI_add _ _) ?_
        refine p_Nm_known X k_Nm_28 d_Nm_declare_118 ?_
        refine V.iload_n X d_Nm_declare_121 rfl ?_
        refine V.iconst (v := nI 2) X d_Nm_declare_122 (by decide +kernel) ?_
        refine V.cmpN_ne (tgt := 139) X d_Nm_declare_123 (by decide) (by first | omega | (dsimp only; omega) | (simp only [] at *; omega)) (by first | omega | (dsimp only; omega) | (simp only [] at *; omega)) (fun h123 => ?_) (fun h123 => absurd h123 (h91))
        refine V.aload_n X d_Nm_declare_139 rfl ?_
        refine V.dup X d_Nm_declare_140 rfl ?_
        refine g_Nm_variables X k_Nm_35 d_Nm_declare_141 ?_
        refine V.iconst (v := nI 1) X d_Nm_declare_144 (by decide +kernel) ?_
        refine V.iadd X d_Nm_declare_145 (nI_add _ _) ?_
        refine p_Nm_variables X k_Nm_35 d_Nm_declare_146 ?_
        refine V.aload_n X d_Nm_declare_149 rfl ?_
        refine g_Nm_slots X k_Nm_25 d_Nm_declare_150 ?_
        refine V.aload_n X d_Nm_declare_153 rfl ?_
        refine g_Nm_level X k_Nm_32 d_Nm_declare_154 ?_
        refine V.dup2 X d_Nm_declare_157 rfl rfl ?_
        refine l_Nm_slots X (by first | omega | (dsimp only; omega) | (simp only [] at *; omega)) d_Nm_declare_158 ?_
        refine V.iconst (v := nI 1) X d_Nm_declare_159 (by decide +kernel) ?_
        refine V.iadd X d_Nm_declare_160 (nI_add _ _) ?_
        refine s_Nm_slots X (by first | omega | (dsimp only; omega) | (simp only [] at *; omega)) d_Nm_declare_161 ?_
        refine V.iconst (v := nI 1) X d_Nm_declare_162 (by decide +kernel) ?_
        exact V.zret X d_Nm_declare_163 (by first | exact Or.inl rfl | exact Or.inr rfl | (unfold bI; split; exact Or.inr rfl; exact Or.inl rfl)) rfl rfl
      · rw [nm_add, if_pos h91]
        refine V.aload_n X d_Nm_declare_94 rfl ?_
        refine g_Nm_procedures X k_Nm_38 d_Nm_declare_95 ?_
        refine V.goto (tgt := 110) X d_Nm_declare_98 (by decide) ?_
        refine s_Nm_numbers X (by first | omega | (dsimp only; omega) | (simp only [] at *; omega)) d_Nm_declare_110 ?_
        refine V.aload_n X d_Nm_declare_111 rfl ?_
        refine V.dup X d_Nm_declare_112 rfl ?_
        refine g_Nm_known X k_Nm_28 d_Nm_declare_113 ?_
        refine V.iconst (v := nI 1) X d_Nm_declare_116 (by decide +kernel) ?_
        refine V.iadd X d_Nm_declare_117 (nI_add _ _) ?_
        refine p_Nm_known X k_Nm_28 d_Nm_declare_118 ?_
        refine V.iload_n X d_Nm_declare_121 rfl ?_
        refine V.iconst (v := nI 2) X d_Nm_declare_122 (by decide +kernel) ?_
        refine V.cmpN_ne (tgt := 139) X d_Nm_declare_123 (by decide) (by first | omega | (dsimp only; omega) | (simp only [] at *; omega)) (by first | omega | (dsimp only; omega) | (simp only [] at *; omega)) (fun h123 => absurd h123 (fun q => q h91)) (fun h123 => ?_)
        refine V.aload_n X d_Nm_declare_126 rfl ?_
        refine V.dup X d_Nm_declare_127 rfl ?_
        refine g_Nm_procedures X k_Nm_38 d_Nm_declare_128 ?_
        refine V.iconst (v := nI 1) X d_Nm_declare_131 (by decide +kernel) ?_
        refine V.iadd X d_Nm_declare_132 (nI_add _ _) ?_
        refine p_Nm_procedures X k_Nm_38 d_Nm_declare_133 ?_
        refine V.goto (tgt := 162) X d_Nm_declare_136 (by decide) ?_
        refine V.iconst (v := nI 1) X d_Nm_declare_162 (by decide +kernel) ?_
        exact V.zret X d_Nm_declare_163 (by first | exact Or.inl rfl | exact Or.inr rfl | (unfold bI; split; exact Or.inr rfl; exact Or.inl rfl)) rfl rfl
    · rw [show nm_declare N v k = (false, N) from by simp [nm_declare, nm_twice, *]]
      refine V.iconst (v := nI 0) X d_Nm_declare_46 (by decide +kernel) ?_
      exact V.zret X d_Nm_declare_47 (by first | exact Or.inl rfl | exact Or.inr rfl | (unfold bI; split; exact Or.inr rfl; exact Or.inl rfl)) rfl rfl
  · rw [show nm_declare N v k = (false, N) from by simp [nm_declare, nm_twice, hf]; exact fun q => absurd h23 q]
    refine V.iconst (v := nI 1) X d_Nm_declare_26 (by decide +kernel) ?_
    refine V.goto (tgt := 31) X d_Nm_declare_27 (by decide) ?_
    refine V.istore (lv' := [(0, _), (1, _), (3, _), (4, _), (5, _)]) X d_Nm_declare_31 (by decide) rfl ?_
    refine V.iload X d_Nm_declare_33 rfl ?_
    refine V.ifN_ne (tgt := 46) X d_Nm_declare_35 (by decide) (by first | omega | (dsimp only; omega) | (simp only [] at *; omega)) (fun h35 => ?_) (fun h35 => absurd h35 (by decide))
    refine V.iconst (v := nI 0) X d_Nm_declare_46 (by decide +kernel) ?_
    exact V.zret X d_Nm_declare_47 (by first | exact Or.inl rfl | exact Or.inr rfl | (unfold bI; split; exact Or.inr rfl; exact Or.inl rfl)) rfl rfl
theorem c_Nm_declare {l : Launch} {z : Zt} {a u w : Nat → Nat} {P : Pm} {F : Int32} {T : Tk} {N : Nm} {C D : Co} {M : Mc} (h : Nat) {v : Int64} {k : Nat} (hk2 : k < 2 ^ 31) (hk : N.2.2.2.2.2.1 ≤ N.2.2.2.2.2.2.2.1 + N.2.2.2.2.2.2.2.2) (hv : N.2.2.2.2.2.2.2.1 ≤ 12) (hp : N.2.2.2.2.2.2.2.2 ≤ 6) (hlv : N.2.2.2.2.2.2.1 < 4) (hlb : ∀ i, N.2.2.1 i < 2 ^ 31) : XC l (Gz z) (h + 1) y_Nm_declare b_Nm_declare 6 (some .boolean) [.ref (a 7), .long v, .int (nI k)] (cw z a u w P F T N C D M) (.inl (some (.int (bI (nm_declare N v k).1)))) (cw z a u w P F T (nm_declare N v k).2 C D M) := by
  cases hf : nm_find N v with
  | none => exact c_Nm_declare_none h hk2 hk hv hp hlv hf
  | some i => exact c_Nm_declare_some h hk2 hk hv hp hlv hlb hf
