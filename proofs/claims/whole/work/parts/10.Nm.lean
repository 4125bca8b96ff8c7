/-! ===== Names ===== -/
def nm_clear (N : Nm) : Nm := (N.words, N.kinds, N.levels, N.numbers, va_up N.slots 0 0, 0, 0, 0, 0)
set_option maxHeartbeats 4000000 in
set_option maxRecDepth 100000 in
theorem c_Nm_clear {l : Launch} {z : Zt} {a u w : Nat → Nat} {P : Pm} {F : Int32} {T : Tk} {N : Nm} {C D : Co} {M : Mc} (h : Nat)  : XC l (Gz z) (h) y_Nm_clear b_Nm_clear 1 none [.ref (a 7)] (cw z a u w P F T N C D M) (.inl none) (cw z a u w P F T (nm_clear N) C D M) := by
  refine XC.ofV (by decide +kernel) rfl ?_
  intro p e s m below meth c X hnm
  refine V.lvs (lv' := [(0, .ref (a 7))]) rfl ?_
  refine V.aload_n X d_Nm_clear_0 rfl ?_
  refine V.iconst (v := nI 0) X d_Nm_clear_1 (by decide +kernel) ?_
  refine p_Nm_known X k_Nm_28 d_Nm_clear_2 ?_
  refine V.aload_n X d_Nm_clear_5 rfl ?_
  refine V.iconst (v := nI 0) X d_Nm_clear_6 (by decide +kernel) ?_
  refine p_Nm_level X k_Nm_32 d_Nm_clear_7 ?_
  refine V.aload_n X d_Nm_clear_10 rfl ?_
  refine g_Nm_slots X k_Nm_25 d_Nm_clear_11 ?_
  refine V.aload_n X d_Nm_clear_14 rfl ?_
  refine g_Nm_level X k_Nm_32 d_Nm_clear_15 ?_
  refine V.iconst (v := nI 0) X d_Nm_clear_18 (by decide +kernel) ?_
  refine s_Nm_slots X (by first | omega | (dsimp only; omega) | (simp only [] at *; omega)) d_Nm_clear_19 ?_
  refine V.aload_n X d_Nm_clear_20 rfl ?_
  refine V.iconst (v := nI 0) X d_Nm_clear_21 (by decide +kernel) ?_
  refine p_Nm_variables X k_Nm_35 d_Nm_clear_22 ?_
  refine V.aload_n X d_Nm_clear_25 rfl ?_
  refine V.iconst (v := nI 0) X d_Nm_clear_26 (by decide +kernel) ?_
  refine p_Nm_procedures X k_Nm_38 d_Nm_clear_27 ?_
  exact V.vret X d_Nm_clear_30 rfl rfl
set_option maxHeartbeats 4000000 in
set_option maxRecDepth 100000 in
theorem c_Nm_declared {l : Launch} {z : Zt} {a u w : Nat → Nat} {P : Pm} {F : Int32} {T : Tk} {N : Nm} {C D : Co} {M : Mc} (h : Nat)  : XC l (Gz z) (h) y_Nm_declared b_Nm_declared 1 (some .int) [.ref (a 7)] (cw z a u w P F T N C D M) (.inl (some (.int (nI (N.variables + N.procedures))))) (cw z a u w P F T N C D M) := by
  refine XC.ofV (by decide +kernel) rfl ?_
  intro p e s m below meth c X hnm
  refine V.lvs (lv' := [(0, .ref (a 7))]) rfl ?_
  refine V.aload_n X d_Nm_declared_0 rfl ?_
  refine g_Nm_variables X k_Nm_35 d_Nm_declared_1 ?_
  refine V.aload_n X d_Nm_declared_4 rfl ?_
  refine g_Nm_procedures X k_Nm_38 d_Nm_declared_5 ?_
  refine V.iadd X d_Nm_declared_8 (nI_add _ _) ?_
  exact V.iret X d_Nm_declared_9 rfl rfl
def nm_open (N : Nm) : Nm := if 3 ≤ N.level then N else (N.words, N.kinds, N.levels, N.numbers, va_up N.slots (N.level + 1) 0, N.known, N.level + 1, N.variables, N.procedures)
set_option maxHeartbeats 4000000 in
set_option maxRecDepth 100000 in
theorem c_Nm_open {l : Launch} {z : Zt} {a u w : Nat → Nat} {P : Pm} {F : Int32} {T : Tk} {N : Nm} {C D : Co} {M : Mc} (h : Nat) (hl : N.level < 2 ^ 31) : XC l (Gz z) (h) y_Nm_open b_Nm_open 1 none [.ref (a 7)] (cw z a u w P F T N C D M) (.inl none) (cw z a u w P F T (nm_open N) C D M) := by
  refine XC.ofV (by decide +kernel) rfl ?_
  intro p e s m below meth c X hnm
  refine V.lvs (lv' := [(0, .ref (a 7))]) rfl ?_
  refine V.aload_n X d_Nm_open_0 rfl ?_
  refine g_Nm_level X k_Nm_32 d_Nm_open_1 ?_
  refine V.iconst (v := nI 3) X d_Nm_open_4 (by decide +kernel) ?_
  refine V.cmpN_ge (tgt := 28) X d_Nm_open_5 (by decide) (by first | omega | (dsimp only; omega) | (simp only [] at *; omega)) (by first | omega | (dsimp only; omega) | (simp only [] at *; omega)) (fun h5 => ?_) (fun h5 => ?_)
  · exact V.vret X d_Nm_open_28 rfl (by rw [nm_open]; first | rw [if_pos h5] | rw [if_neg (Nat.not_le.mpr h5)])
  · refine V.aload_n X d_Nm_open_8 rfl ?_
    refine V.dup X d_Nm_open_9 rfl ?_
    refine g_Nm_level X k_Nm_32 d_Nm_open_10 ?_
    refine V.iconst (v := nI 1) X d_Nm_open_13 (by decide +kernel) ?_
    refine V.iadd X d_Nm_open_14 (nI_add _ _) ?_
    refine p_Nm_level X k_Nm_32 d_Nm_open_15 ?_
    refine V.aload_n X d_Nm_open_18 rfl ?_
    refine g_Nm_slots X k_Nm_25 d_Nm_open_19 ?_
    refine V.aload_n X d_Nm_open_22 rfl ?_
    refine g_Nm_level X k_Nm_32 d_Nm_open_23 ?_
    refine V.iconst (v := nI 0) X d_Nm_open_26 (by decide +kernel) ?_
    refine s_Nm_slots X (by first | omega | (dsimp only; omega) | (simp only [] at *; omega)) d_Nm_open_27 ?_
    exact V.vret X d_Nm_open_28 rfl (by rw [nm_open]; first | rw [if_pos h5] | rw [if_neg (Nat.not_le.mpr h5)])
set_option maxHeartbeats 4000000 in
set_option maxRecDepth 100000 in
theorem c_Nm_isProcedure {l : Launch} {z : Zt} {a u w : Nat → Nat} {P : Pm} {F : Int32} {T : Tk} {N : Nm} {C D : Co} {M : Mc} (h : Nat) {k : Nat} (hk : k < 18) (hb : N.kinds k < 2 ^ 31) : XC l (Gz z) (h) y_Nm_isProcedure b_Nm_isProcedure 2 (some .boolean) [.ref (a 7), .int (nI k)] (cw z a u w P F T N C D M) (.inl (some (.int (bI (decide (N.kinds k = 2)))))) (cw z a u w P F T N C D M) := by
  refine XC.ofV (by decide +kernel) rfl ?_
  intro p e s m below meth c X hnm
  refine V.lvs (lv' := [(0, .ref (a 7)), (1, .int (nI k))]) rfl ?_
  refine V.aload_n X d_Nm_isProcedure_0 rfl ?_
  refine g_Nm_kinds X k_Nm_15 d_Nm_isProcedure_1 ?_
  refine V.iload_n X d_Nm_isProcedure_4 rfl ?_
  refine l_Nm_kinds X (by first | omega | (dsimp only; omega) | (simp only [] at *; omega)) d_Nm_isProcedure_5 ?_
  refine V.iconst (v := nI 2) X d_Nm_isProcedure_6 (by decide +kernel) ?_
  refine V.cmpN_ne (tgt := 14) X d_Nm_isProcedure_7 (by decide) (by first | omega | (dsimp only; omega) | (simp only [] at *; omega)) (by first | omega | (dsimp only; omega) | (simp only [] at *; omega)) (fun h7 => ?_) (fun h7 => ?_)
  · refine V.iconst (v := nI 0) X d_Nm_isProcedure_14 (by decide +kernel) ?_
    exact V.zret X d_Nm_isProcedure_15 (by first | exact Or.inl rfl | exact Or.inr rfl | (unfold bI; split; exact Or.inr rfl; exact Or.inl rfl)) (by rw [bI]; simp [h7]) rfl
  · refine V.iconst (v := nI 1) X d_Nm_isProcedure_10 (by decide +kernel) ?_
    refine V.goto (tgt := 15) X d_Nm_isProcedure_11 (by decide) ?_
    exact V.zret X d_Nm_isProcedure_15 (by first | exact Or.inl rfl | exact Or.inr rfl | (unfold bI; split; exact Or.inr rfl; exact Or.inl rfl)) (by rw [bI]; simp [h7]) rfl
set_option maxHeartbeats 4000000 in
set_option maxRecDepth 100000 in
theorem c_Nm_isReference {l : Launch} {z : Zt} {a u w : Nat → Nat} {P : Pm} {F : Int32} {T : Tk} {N : Nm} {C D : Co} {M : Mc} (h : Nat) {k : Nat} (hk : k < 18) (hb : N.kinds k < 2 ^ 31) : XC l (Gz z) (h) y_Nm_isReference b_Nm_isReference 2 (some .boolean) [.ref (a 7), .int (nI k)] (cw z a u w P F T N C D M) (.inl (some (.int (bI (decide (N.kinds k = 1)))))) (cw z a u w P F T N C D M) := by
  refine XC.ofV (by decide +kernel) rfl ?_
  intro p e s m below meth c X hnm
  refine V.lvs (lv' := [(0, .ref (a 7)), (1, .int (nI k))]) rfl ?_
  refine V.aload_n X d_Nm_isReference_0 rfl ?_
  refine g_Nm_kinds X k_Nm_15 d_Nm_isReference_1 ?_
  refine V.iload_n X d_Nm_isReference_4 rfl ?_
  refine l_Nm_kinds X (by first | omega | (dsimp only; omega) | (simp only [] at *; omega)) d_Nm_isReference_5 ?_
  refine V.iconst (v := nI 1) X d_Nm_isReference_6 (by decide +kernel) ?_
  refine V.cmpN_ne (tgt := 14) X d_Nm_isReference_7 (by decide) (by first | omega | (dsimp only; omega) | (simp only [] at *; omega)) (by first | omega | (dsimp only; omega) | (simp only [] at *; omega)) (fun h7 => ?_) (fun h7 => ?_)
  · refine V.iconst (v := nI 0) X d_Nm_isReference_14 (by decide +kernel) ?_
    exact V.zret X d_Nm_isReference_15 (by first | exact Or.inl rfl | exact Or.inr rfl | (unfold bI; split; exact Or.inr rfl; exact Or.inl rfl)) (by rw [bI]; simp [h7]) rfl
  · refine V.iconst (v := nI 1) X d_Nm_isReference_10 (by decide +kernel) ?_
    refine V.goto (tgt := 15) X d_Nm_isReference_11 (by decide) ?_
    exact V.zret X d_Nm_isReference_15 (by first | exact Or.inl rfl | exact Or.inr rfl | (unfold bI; split; exact Or.inr rfl; exact Or.inl rfl)) (by rw [bI]; simp [h7]) rfl
set_option maxHeartbeats 4000000 in
set_option maxRecDepth 100000 in
theorem c_Nm_hops {l : Launch} {z : Zt} {a u w : Nat → Nat} {P : Pm} {F : Int32} {T : Tk} {N : Nm} {C D : Co} {M : Mc} (h : Nat) {k : Nat} (hk : k < 18) (hb : N.levels k ≤ N.level) : XC l (Gz z) (h) y_Nm_hops b_Nm_hops 2 (some .int) [.ref (a 7), .int (nI k)] (cw z a u w P F T N C D M) (.inl (some (.int (nI (N.level - N.levels k))))) (cw z a u w P F T N C D M) := by
  refine XC.ofV (by decide +kernel) rfl ?_
  intro p e s m below meth c X hnm
  refine V.lvs (lv' := [(0, .ref (a 7)), (1, .int (nI k))]) rfl ?_
  refine V.aload_n X d_Nm_hops_0 rfl ?_
  refine g_Nm_level X k_Nm_32 d_Nm_hops_1 ?_
  refine V.aload_n X d_Nm_hops_4 rfl ?_
  refine g_Nm_levels X k_Nm_19 d_Nm_hops_5 ?_
  refine V.iload_n X d_Nm_hops_8 rfl ?_
  refine l_Nm_levels X (by first | omega | (dsimp only; omega) | (simp only [] at *; omega)) d_Nm_hops_9 ?_
  refine V.isub X d_Nm_hops_10 (pk_sub (by first | omega | (dsimp only; omega) | (simp only [] at *; omega))) ?_
  exact V.iret X d_Nm_hops_11 rfl rfl
set_option maxHeartbeats 4000000 in
set_option maxRecDepth 100000 in
theorem c_Nm_number {l : Launch} {z : Zt} {a u w : Nat → Nat} {P : Pm} {F : Int32} {T : Tk} {N : Nm} {C D : Co} {M : Mc} (h : Nat) {k : Nat} (hk : k < 18) : XC l (Gz z) (h) y_Nm_number b_Nm_number 2 (some .int) [.ref (a 7), .int (nI k)] (cw z a u w P F T N C D M) (.inl (some (.int (nI (N.numbers k))))) (cw z a u w P F T N C D M) := by
  refine XC.ofV (by decide +kernel) rfl ?_
  intro p e s m below meth c X hnm
  refine V.lvs (lv' := [(0, .ref (a 7)), (1, .int (nI k))]) rfl ?_
  refine V.aload_n X d_Nm_number_0 rfl ?_
  refine g_Nm_numbers X k_Nm_22 d_Nm_number_1 ?_
  refine V.iload_n X d_Nm_number_4 rfl ?_
  refine l_Nm_numbers X (by first | omega | (dsimp only; omega) | (simp only [] at *; omega)) d_Nm_number_5 ?_
  exact V.iret X d_Nm_number_6 rfl rfl
set_option maxHeartbeats 4000000 in
set_option maxRecDepth 100000 in
theorem c_Nm_lastProcedure {l : Launch} {z : Zt} {a u w : Nat → Nat} {P : Pm} {F : Int32} {T : Tk} {N : Nm} {C D : Co} {M : Mc} (h : Nat) (hb : 1 ≤ N.procedures) : XC l (Gz z) (h) y_Nm_lastProcedure b_Nm_lastProcedure 1 (some .int) [.ref (a 7)] (cw z a u w P F T N C D M) (.inl (some (.int (nI (N.procedures - 1))))) (cw z a u w P F T N C D M) := by
  refine XC.ofV (by decide +kernel) rfl ?_
  intro p e s m below meth c X hnm
  refine V.lvs (lv' := [(0, .ref (a 7))]) rfl ?_
  refine V.aload_n X d_Nm_lastProcedure_0 rfl ?_
  refine g_Nm_procedures X k_Nm_38 d_Nm_lastProcedure_1 ?_
  refine V.iconst (v := nI 1) X d_Nm_lastProcedure_4 (by decide +kernel) ?_
  refine V.isub X d_Nm_lastProcedure_5 (pk_sub (by first | omega | (dsimp only; omega) | (simp only [] at *; omega))) ?_
  exact V.iret X d_Nm_lastProcedure_6 rfl rfl
