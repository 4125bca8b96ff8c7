/-! ===== Code ===== -/
def co_add (C : Co) (x f s : Nat) : Co := if 300 ≤ C.2.2.2.2.2.2.1 then C else (va_up C.1 C.2.2.2.2.2.2.1 x, va_up C.2.1 C.2.2.2.2.2.2.1 f, va_up C.2.2.1 C.2.2.2.2.2.2.1 s, C.2.2.2.1, C.2.2.2.2.1, C.2.2.2.2.2.1, C.2.2.2.2.2.2.1 + 1, C.2.2.2.2.2.2.2)
def co_isRef (C : Co) (x k : Nat) : Bool := decide (k < 3) && decide (C.2.2.2.2.2.1 x / 2 ^ k % 2 = 1)
def co_jump (C : Co) (k : Nat) : Co := if C.2.2.2.2.2.2.1 ≤ k then C else (C.1, va_up C.2.1 k C.2.2.2.2.2.2.1, C.2.2.1, C.2.2.2.1, C.2.2.2.2.1, C.2.2.2.2.2.1, C.2.2.2.2.2.2.1, C.2.2.2.2.2.2.2)
def co_addr (C : Co) (k : Nat) : Co := if C.2.2.2.2.2.2.1 ≤ k then C else (va_up C.1 k (if C.1 k = 3 then 2 else 4), C.2.1, C.2.2.1, C.2.2.2.1, C.2.2.2.2.1, C.2.2.2.2.2.1, C.2.2.2.2.2.2.1, C.2.2.2.2.2.2.2)
theorem shr_small {r k : Nat} (hr : r < 2 ^ 31) (hk : k < 3) : nI r >>> (nI k &&& 31) = nI (r / 2 ^ k) := by
  refine pk_shrN hr _ k ?_
  rcases (show k = 0 ∨ k = 1 ∨ k = 2 by omega) with rfl | rfl | rfl <;> decide +kernel
theorem and_one {x : Nat} (hx : x < 2 ^ 32) : nI x &&& nI 1 = nI (x % 2) := pk_andN hx 1 (by decide +kernel)
set_option maxHeartbeats 4000000 in
set_option maxRecDepth 100000 in
theorem c_Co_add {l : Launch} {z : Zt} {a u w : Nat → Nat} {P : Pm} {F : Int32} {T : Tk} {N : Nm} {C D : Co} {M : Mc} (h : Nat) {x f t : Nat} (hs : C.2.2.2.2.2.2.1 < 2 ^ 31) : XC l (Gz z) (h) y_Co_add b_Co_add 5 (some .int) [.ref (u 0), .int (nI x), .int (nI f), .int (nI t)] (cw z a u w P F T N C D M) (.inl (some (.int (nI C.2.2.2.2.2.2.1)))) (cw z a u w P F T N (co_add C x f t) D M) := by
  refine XC.ofV (by decide +kernel) rfl ?_
  intro p e s m below meth c X hnm
  refine V.lvs (lv' := [(0, .ref (u 0)), (1, .int (nI x)), (2, .int (nI f)), (3, .int (nI t))]) rfl ?_
  refine V.aload_n X d_Co_add_0 rfl ?_
  refine g_Co_size X k_Co_30 d_Co_add_1 ?_
  refine V.istore (lv' := [(0, _), (1, _), (2, _), (3, _), (4, _)]) X d_Co_add_4 (by decide) rfl ?_
  refine V.iload X d_Co_add_6 rfl ?_
  refine V.sipush (v := nI 300) X d_Co_add_8 (by decide +kernel) ?_
  refine V.cmpN_ge (tgt := 48) X d_Co_add_11 (by decide) (by first | omega | (dsimp only; omega) | (simp only [] at *; omega)) (by first | omega | (dsimp only; omega) | (simp only [] at *; omega)) (fun h11 => ?_) (fun h11 => ?_)
  · rw [co_add, if_pos h11]
    refine V.iload X d_Co_add_48 rfl ?_
    exact V.iret X d_Co_add_50 rfl rfl
  · rw [co_add, if_neg (Nat.not_le.mpr h11)]
    refine V.aload_n X d_Co_add_14 rfl ?_
    refine g_Co_operations X k_Co_11 d_Co_add_15 ?_
    refine V.iload X d_Co_add_18 rfl ?_
    refine V.iload_n X d_Co_add_20 rfl ?_
    refine s_Co_operations X (by first | omega | (dsimp only; omega) | (simp only [] at *; omega)) d_Co_add_21 ?_
    refine V.aload_n X d_Co_add_22 rfl ?_
    refine g_Co_firsts X k_Co_15 d_Co_add_23 ?_
    refine V.iload X d_Co_add_26 rfl ?_
    refine V.iload_n X d_Co_add_28 rfl ?_
    refine s_Co_firsts X (by first | omega | (dsimp only; omega) | (simp only [] at *; omega)) d_Co_add_29 ?_
    refine V.aload_n X d_Co_add_30 rfl ?_
    refine g_Co_seconds X k_Co_18 d_Co_add_31 ?_
    refine V.iload X d_Co_add_34 rfl ?_
    refine V.iload_n X d_Co_add_36 rfl ?_
    refine s_Co_seconds X (by first | omega | (dsimp only; omega) | (simp only [] at *; omega)) d_Co_add_37 ?_
    refine V.aload_n X d_Co_add_38 rfl ?_
    refine V.dup X d_Co_add_39 rfl ?_
    refine g_Co_size X k_Co_30 d_Co_add_40 ?_
    refine V.iconst (v := nI 1) X d_Co_add_43 (by decide +kernel) ?_
    refine V.iadd X d_Co_add_44 (nI_add _ _) ?_
    refine p_Co_size X k_Co_30 d_Co_add_45 ?_
    refine V.iload X d_Co_add_48 rfl ?_
    exact V.iret X d_Co_add_50 rfl rfl
set_option maxHeartbeats 4000000 in
set_option maxRecDepth 100000 in
theorem c_Co_isReference {l : Launch} {z : Zt} {a u w : Nat → Nat} {P : Pm} {F : Int32} {T : Tk} {N : Nm} {C D : Co} {M : Mc} (h : Nat) {x k : Nat} (hx : x < 6) (hk : k < 2 ^ 31) (hr : C.2.2.2.2.2.1 x < 2 ^ 31) : XC l (Gz z) (h) y_Co_isReference b_Co_isReference 3 (some .boolean) [.ref (u 0), .int (nI x), .int (nI k)] (cw z a u w P F T N C D M) (.inl (some (.int (bI (co_isRef C x k))))) (cw z a u w P F T N C D M) := by
  refine XC.ofV (by decide +kernel) rfl ?_
  intro p e s m below meth c X hnm
  refine V.lvs (lv' := [(0, .ref (u 0)), (1, .int (nI x)), (2, .int (nI k))]) rfl ?_
  refine V.iload_n X d_Co_isReference_0 rfl ?_
  refine V.iconst (v := nI 3) X d_Co_isReference_1 (by decide +kernel) ?_
  refine V.cmpN_ge (tgt := 23) X d_Co_isReference_2 (by decide) (by first | omega | (dsimp only; omega) | (simp only [] at *; omega)) (by first | omega | (dsimp only; omega) | (simp only [] at *; omega)) (fun h2 => ?_) (fun h2 => ?_)
  · have h2n : ¬ k < 3 := by omega
    refine V.iconst (v := nI 0) X d_Co_isReference_23 (by decide +kernel) ?_
    exact V.zret X d_Co_isReference_24 (by first | exact Or.inl rfl | exact Or.inr rfl | (unfold bI; split; exact Or.inr rfl; exact Or.inl rfl)) (by simp [bI, co_isRef, *]) rfl
  · refine V.aload_n X d_Co_isReference_5 rfl ?_
    refine g_Co_references X k_Co_27 d_Co_isReference_6 ?_
    refine V.iload_n X d_Co_isReference_9 rfl ?_
    refine l_Co_references X (by first | omega | (dsimp only; omega) | (simp only [] at *; omega)) d_Co_isReference_10 ?_
    refine V.iload_n X d_Co_isReference_11 rfl ?_
    refine V.ishr X d_Co_isReference_12 (shr_small hr h2) ?_
    refine V.iconst (v := nI 1) X d_Co_isReference_13 (by decide +kernel) ?_
    refine V.iand X d_Co_isReference_14 (and_one (by have := Nat.div_le_self (C.2.2.2.2.2.1 x) (2 ^ k); omega)) ?_
    refine V.iconst (v := nI 1) X d_Co_isReference_15 (by decide +kernel) ?_
    have hm := Nat.mod_lt (C.2.2.2.2.2.1 x / 2 ^ k) (show 2 > 0 by decide)
    refine V.cmpN_ne (tgt := 23) X d_Co_isReference_16 (by decide) (by first | omega | (dsimp only; omega) | (simp only [] at *; omega)) (by first | omega | (dsimp only; omega) | (simp only [] at *; omega)) (fun h16 => ?_) (fun h16 => ?_)
    · refine V.iconst (v := nI 0) X d_Co_isReference_23 (by decide +kernel) ?_
      exact V.zret X d_Co_isReference_24 (by first | exact Or.inl rfl | exact Or.inr rfl | (unfold bI; split; exact Or.inr rfl; exact Or.inl rfl)) (by simp [bI, co_isRef, *]) rfl
    · refine V.iconst (v := nI 1) X d_Co_isReference_19 (by decide +kernel) ?_
      refine V.goto (tgt := 24) X d_Co_isReference_20 (by decide) ?_
      exact V.zret X d_Co_isReference_24 (by first | exact Or.inl rfl | exact Or.inr rfl | (unfold bI; split; exact Or.inr rfl; exact Or.inl rfl)) (by simp [bI, co_isRef, *]) rfl
set_option maxHeartbeats 4000000 in
set_option maxRecDepth 100000 in
theorem c_Co_jumpToEnd {l : Launch} {z : Zt} {a u w : Nat → Nat} {P : Pm} {F : Int32} {T : Tk} {N : Nm} {C D : Co} {M : Mc} (h : Nat) {k : Nat} (hk : k < 2 ^ 31) (hs : C.2.2.2.2.2.2.1 ≤ 300) : XC l (Gz z) (h) y_Co_jumpToEnd b_Co_jumpToEnd 2 none [.ref (u 0), .int (nI k)] (cw z a u w P F T N C D M) (.inl none) (cw z a u w P F T N (co_jump C k) D M) := by
  refine XC.ofV (by decide +kernel) rfl ?_
  intro p e s m below meth c X hnm
  refine V.lvs (lv' := [(0, .ref (u 0)), (1, .int (nI k))]) rfl ?_
  refine V.iload_n X d_Co_jumpToEnd_0 rfl ?_
  refine V.aload_n X d_Co_jumpToEnd_1 rfl ?_
  refine g_Co_size X k_Co_30 d_Co_jumpToEnd_2 ?_
  refine V.cmpN_ge (tgt := 18) X d_Co_jumpToEnd_5 (by decide) (by first | omega | (dsimp only; omega) | (simp only [] at *; omega)) (by first | omega | (dsimp only; omega) | (simp only [] at *; omega)) (fun h5 => ?_) (fun h5 => ?_)
  · rw [co_jump, if_pos h5]
    exact V.vret X d_Co_jumpToEnd_18 rfl rfl
  · rw [co_jump, if_neg (Nat.not_le.mpr h5)]
    have hk3 : k < 300 := Nat.lt_of_lt_of_le h5 hs
    refine V.aload_n X d_Co_jumpToEnd_8 rfl ?_
    refine g_Co_firsts X k_Co_15 d_Co_jumpToEnd_9 ?_
    refine V.iload_n X d_Co_jumpToEnd_12 rfl ?_
    refine V.aload_n X d_Co_jumpToEnd_13 rfl ?_
    refine g_Co_size X k_Co_30 d_Co_jumpToEnd_14 ?_
    refine s_Co_firsts X (by first | omega | (dsimp only; omega) | (simp only [] at *; omega)) d_Co_jumpToEnd_17 ?_
    exact V.vret X d_Co_jumpToEnd_18 rfl rfl
set_option maxHeartbeats 4000000 in
set_option maxRecDepth 100000 in
theorem c_Co_takeAddress {l : Launch} {z : Zt} {a u w : Nat → Nat} {P : Pm} {F : Int32} {T : Tk} {N : Nm} {C D : Co} {M : Mc} (h : Nat) {k : Nat} (hk : k < 2 ^ 31) (hs : C.2.2.2.2.2.2.1 ≤ 300) (ho : C.1 k < 2 ^ 31) : XC l (Gz z) (h) y_Co_takeAddress b_Co_takeAddress 2 none [.ref (u 0), .int (nI k)] (cw z a u w P F T N C D M) (.inl none) (cw z a u w P F T N (co_addr C k) D M) := by
  refine XC.ofV (by decide +kernel) rfl ?_
  intro p e s m below meth c X hnm
  refine V.lvs (lv' := [(0, .ref (u 0)), (1, .int (nI k))]) rfl ?_
  refine V.iload_n X d_Co_takeAddress_0 rfl ?_
  refine V.aload_n X d_Co_takeAddress_1 rfl ?_
  refine g_Co_size X k_Co_30 d_Co_takeAddress_2 ?_
  refine V.cmpN_ge (tgt := 29) X d_Co_takeAddress_5 (by decide) (by first | omega | (dsimp only; omega) | (simp only [] at *; omega)) (by first | omega | (dsimp only; omega) | (simp only [] at *; omega)) (fun h5 => ?_) (fun h5 => ?_)
  · rw [co_addr, if_pos h5]
    exact V.vret X d_Co_takeAddress_29 rfl rfl
  · rw [co_addr, if_neg (Nat.not_le.mpr h5)]
    have hk3 : k < 300 := Nat.lt_of_lt_of_le h5 hs
    refine V.aload_n X d_Co_takeAddress_8 rfl ?_
    refine g_Co_operations X k_Co_11 d_Co_takeAddress_9 ?_
    refine V.iload_n X d_Co_takeAddress_12 rfl ?_
    refine V.aload_n X d_Co_takeAddress_13 rfl ?_
    refine g_Co_operations X k_Co_11 d_Co_takeAddress_14 ?_
    refine V.iload_n X d_Co_takeAddress_17 rfl ?_
    refine l_Co_operations X (by first | omega | (dsimp only; omega) | (simp only [] at *; omega)) d_Co_takeAddress_18 ?_
    refine V.iconst (v := nI 3) X d_Co_takeAddress_19 (by decide +kernel) ?_
    refine V.cmpN_ne (tgt := 27) X d_Co_takeAddress_20 (by decide) (by first | omega | (dsimp only; omega) | (simp only [] at *; omega)) (by first | omega | (dsimp only; omega) | (simp only [] at *; omega)) (fun h20 => ?_) (fun h20 => ?_)
    · rw [if_neg h20]
      refine V.iconst (v := nI 4) X d_Co_takeAddress_27 (by decide +kernel) ?_
      refine s_Co_operations X (by first | omega | (dsimp only; omega) | (simp only [] at *; omega)) d_Co_takeAddress_28 ?_
      exact V.vret X d_Co_takeAddress_29 rfl rfl
    · rw [if_pos h20]
      refine V.iconst (v := nI 2) X d_Co_takeAddress_23 (by decide +kernel) ?_
      refine V.goto (tgt := 28) X d_Co_takeAddress_24 (by decide) ?_
      refine s_Co_operations X (by first | omega | (dsimp only; omega) | (simp only [] at *; omega)) d_Co_takeAddress_28 ?_
      exact V.vret X d_Co_takeAddress_29 rfl rfl
