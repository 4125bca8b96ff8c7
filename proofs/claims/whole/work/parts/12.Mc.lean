/-! ===== Machine ===== -/
def mc_ld (M : Mc) (x : Int32) : Int32 := if x < 0 ∨ nI 132 ≤ x then nI 0 else M.1 x.toNatClampNeg
def mc_st (M : Mc) (x v : Int32) : Mc := if x < 0 ∨ nI 132 ≤ x then M else (upd M.1 x.toNatClampNeg v, M.2.1, M.2.2.1, M.2.2.2.1, M.2.2.2.2.1, M.2.2.2.2.2.1, M.2.2.2.2.2.2.1, M.2.2.2.2.2.2.2.1, M.2.2.2.2.2.2.2.2.1, M.2.2.2.2.2.2.2.2.2.1, M.2.2.2.2.2.2.2.2.2.2.1, M.2.2.2.2.2.2.2.2.2.2.2)
def mc_push (M : Mc) (x : Int32) : Mc := if 21 ≤ M.2.2.2.2.1 then M else (M.1, M.2.1, M.2.2.1, upd M.2.2.2.1 M.2.2.2.2.1 x, M.2.2.2.2.1 + 1, M.2.2.2.2.2.1, M.2.2.2.2.2.2.1, M.2.2.2.2.2.2.2.1, M.2.2.2.2.2.2.2.2.1, M.2.2.2.2.2.2.2.2.2.1, M.2.2.2.2.2.2.2.2.2.2.1, M.2.2.2.2.2.2.2.2.2.2.2)
def mc_pop (M : Mc) : Int32 × Mc := if M.2.2.2.2.1 = 0 then (nI 0, M) else (M.2.2.2.1 (M.2.2.2.2.1 - 1), (M.1, M.2.1, M.2.2.1, M.2.2.2.1, M.2.2.2.2.1 - 1, M.2.2.2.2.2.1, M.2.2.2.2.2.2.1, M.2.2.2.2.2.2.2.1, M.2.2.2.2.2.2.2.2.1, M.2.2.2.2.2.2.2.2.2.1, M.2.2.2.2.2.2.2.2.2.2.1, M.2.2.2.2.2.2.2.2.2.2.2))
def mc_put (M : Mc) (x : Int32) : Mc := if 32 ≤ M.2.2.2.2.2.2.2.2.1 then (M.1, M.2.1, M.2.2.1, M.2.2.2.1, M.2.2.2.2.1, M.2.2.2.2.2.1, M.2.2.2.2.2.2.1, M.2.2.2.2.2.2.2.1, M.2.2.2.2.2.2.2.2.1, M.2.2.2.2.2.2.2.2.2.1 + 1, M.2.2.2.2.2.2.2.2.2.2.1, M.2.2.2.2.2.2.2.2.2.2.2) else (M.1, M.2.1, M.2.2.1, M.2.2.2.1, M.2.2.2.2.1, M.2.2.2.2.2.1, M.2.2.2.2.2.2.1, upd M.2.2.2.2.2.2.2.1 M.2.2.2.2.2.2.2.2.1 x, M.2.2.2.2.2.2.2.2.1 + 1, M.2.2.2.2.2.2.2.2.2.1, M.2.2.2.2.2.2.2.2.2.2.1, M.2.2.2.2.2.2.2.2.2.2.2)
def mc_leave (D : Co) (M : Mc) : Mc := if M.2.2.2.2.2.1 = 0 then (M.1, M.2.1, M.2.2.1, M.2.2.2.1, M.2.2.2.2.1, M.2.2.2.2.2.1, D.2.2.2.2.2.2.1, M.2.2.2.2.2.2.2.1, M.2.2.2.2.2.2.2.2.1, M.2.2.2.2.2.2.2.2.2.1, M.2.2.2.2.2.2.2.2.2.2.1, M.2.2.2.2.2.2.2.2.2.2.2) else (M.1, M.2.1, M.2.2.1, M.2.2.2.1, M.2.2.2.2.1, M.2.2.2.2.2.1 - 1, M.2.2.1 M.2.2.2.2.2.1, M.2.2.2.2.2.2.2.1, M.2.2.2.2.2.2.2.2.1, M.2.2.2.2.2.2.2.2.2.1, M.2.2.2.2.2.2.2.2.2.2.1, M.2.2.2.2.2.2.2.2.2.2.2)
def mc_step (M : Mc) : Mc := (M.1, M.2.1, M.2.2.1, M.2.2.2.1, M.2.2.2.2.1, M.2.2.2.2.2.1, M.2.2.2.2.2.2.1, M.2.2.2.2.2.2.2.1, M.2.2.2.2.2.2.2.2.1, M.2.2.2.2.2.2.2.2.2.1, M.2.2.2.2.2.2.2.2.2.2.1 + 1, M.2.2.2.2.2.2.2.2.2.2.2)
def mc_out (M : Mc) : Nat → Nat → Nat
  | 0, f => f
  | n + 1, f => mc_out M n (M.2.1 f)
def mc_addr (M : Mc) (k t : Nat) : Nat := mc_out M k M.2.2.2.2.2.1 * 12 + t
theorem in132 {x : Int32} (h : ¬ (x < 0 ∨ nI 132 ≤ x)) : ∃ j : Nat, j < 132 ∧ x = nI j := by
  rcases pk_ix x (n := 132) (by decide) with q | q | q
  · exact absurd (Or.inl q) h
  · exact absurd (Or.inr q) h
  · exact q
theorem no132 {j : Nat} (h : j < 132) : ¬ (nI j < 0 ∨ nI 132 ≤ nI j) := by
  rintro (q | q)
  · exact nI_pos (by omega) q
  · have := (nI_leI (by decide) (by omega)).mp q
    omega
theorem mc_ldN {M : Mc} {j : Nat} (h : j < 132) : mc_ld M (nI j) = M.1 j := by
  rw [mc_ld, if_neg (no132 h), nI_clamp (by omega)]
theorem mc_stN {M : Mc} {j : Nat} {v : Int32} (h : j < 132) : mc_st M (nI j) v = (upd M.1 j v, M.2.1, M.2.2.1, M.2.2.2.1, M.2.2.2.2.1, M.2.2.2.2.2.1, M.2.2.2.2.2.2.1, M.2.2.2.2.2.2.2.1, M.2.2.2.2.2.2.2.2.1, M.2.2.2.2.2.2.2.2.2.1, M.2.2.2.2.2.2.2.2.2.2.1, M.2.2.2.2.2.2.2.2.2.2.2) := by
  rw [mc_st, if_neg (no132 h), nI_clamp (by omega)]
set_option maxHeartbeats 4000000 in
set_option maxRecDepth 100000 in
theorem c_Mc_load {l : Launch} {z : Zt} {a u w : Nat → Nat} {P : Pm} {F : Int32} {T : Tk} {N : Nm} {C D : Co} {M : Mc} (h : Nat) {x : Int32} : XC l (Gz z) (h) y_Mc_load b_Mc_load 2 (some .int) [.ref (a 13), .int x] (cw z a u w P F T N C D M) (.inl (some (.int (mc_ld M x)))) (cw z a u w P F T N C D M) := by
  refine XC.ofV (by decide +kernel) rfl ?_
  intro p e s m below meth c X hnm
  refine V.lvs (lv' := [(0, .ref (a 13)), (1, .int x)]) rfl ?_
  refine V.iload_n X d_Mc_load_0 rfl ?_
  refine V.if_lt (tgt := 20) X d_Mc_load_1 (by decide) (fun h1 => ?_) (fun h1 => ?_)
  · rw [mc_ld, if_pos (Or.inl h1)]
    refine V.iconst (v := nI 0) X d_Mc_load_20 (by decide +kernel) ?_
    exact V.iret X d_Mc_load_21 rfl rfl
  · refine V.iload_n X d_Mc_load_4 rfl ?_
    refine V.sipush (v := nI 132) X d_Mc_load_5 (by decide +kernel) ?_
    refine V.icmp_ge (tgt := 20) X d_Mc_load_8 (by decide) (fun h8 => ?_) (fun h8 => ?_)
    · rw [mc_ld, if_pos (Or.inr h8)]
      refine V.iconst (v := nI 0) X d_Mc_load_20 (by decide +kernel) ?_
      exact V.iret X d_Mc_load_21 rfl rfl
    · obtain ⟨j, hj, rfl⟩ := in132 (x := x) (fun q => q.elim h1 h8)
      rw [mc_ldN hj]
      refine V.aload_n X d_Mc_load_11 rfl ?_
      refine g_Mc_cells X k_Mc_18 d_Mc_load_12 ?_
      refine V.iload_n X d_Mc_load_15 rfl ?_
      refine l_Mc_cells X (by first | omega | (dsimp only; omega) | (simp only [] at *; omega)) d_Mc_load_16 ?_
      refine V.goto (tgt := 21) X d_Mc_load_17 (by decide) ?_
      exact V.iret X d_Mc_load_21 rfl rfl
set_option maxHeartbeats 4000000 in
set_option maxRecDepth 100000 in
theorem c_Mc_store {l : Launch} {z : Zt} {a u w : Nat → Nat} {P : Pm} {F : Int32} {T : Tk} {N : Nm} {C D : Co} {M : Mc} (h : Nat) {x v : Int32} : XC l (Gz z) (h) y_Mc_store b_Mc_store 3 none [.ref (a 13), .int x, .int v] (cw z a u w P F T N C D M) (.inl none) (cw z a u w P F T N C D (mc_st M x v)) := by
  refine XC.ofV (by decide +kernel) rfl ?_
  intro p e s m below meth c X hnm
  refine V.lvs (lv' := [(0, .ref (a 13)), (1, .int x), (2, .int v)]) rfl ?_
  refine V.iload_n X d_Mc_store_0 rfl ?_
  refine V.if_lt (tgt := 18) X d_Mc_store_1 (by decide) (fun h1 => ?_) (fun h1 => ?_)
  · rw [mc_st, if_pos (Or.inl h1)]
    exact V.vret X d_Mc_store_18 rfl rfl
  · refine V.iload_n X d_Mc_store_4 rfl ?_
    refine V.sipush (v := nI 132) X d_Mc_store_5 (by decide +kernel) ?_
    refine V.icmp_ge (tgt := 18) X d_Mc_store_8 (by decide) (fun h8 => ?_) (fun h8 => ?_)
    · rw [mc_st, if_pos (Or.inr h8)]
      exact V.vret X d_Mc_store_18 rfl rfl
    · obtain ⟨j, hj, rfl⟩ := in132 (x := x) (fun q => q.elim h1 h8)
      rw [mc_stN hj]
      refine V.aload_n X d_Mc_store_11 rfl ?_
      refine g_Mc_cells X k_Mc_18 d_Mc_store_12 ?_
      refine V.iload_n X d_Mc_store_15 rfl ?_
      refine V.iload_n X d_Mc_store_16 rfl ?_
      refine s_Mc_cells X (by first | omega | (dsimp only; omega) | (simp only [] at *; omega)) d_Mc_store_17 ?_
      exact V.vret X d_Mc_store_18 rfl rfl
set_option maxHeartbeats 4000000 in
set_option maxRecDepth 100000 in
theorem c_Mc_push {l : Launch} {z : Zt} {a u w : Nat → Nat} {P : Pm} {F : Int32} {T : Tk} {N : Nm} {C D : Co} {M : Mc} (h : Nat) {x : Int32} (ht : M.2.2.2.2.1 < 2 ^ 31) : XC l (Gz z) (h) y_Mc_push b_Mc_push 2 none [.ref (a 13), .int x] (cw z a u w P F T N C D M) (.inl none) (cw z a u w P F T N C D (mc_push M x)) := by
  refine XC.ofV (by decide +kernel) rfl ?_
  intro p e s m below meth c X hnm
  refine V.lvs (lv' := [(0, .ref (a 13)), (1, .int x)]) rfl ?_
  refine V.aload_n X d_Mc_push_0 rfl ?_
  refine g_Mc_top X k_Mc_31 d_Mc_push_1 ?_
  refine V.bipush (v := nI 21) X d_Mc_push_4 (by decide +kernel) ?_
  refine V.cmpN_ge (tgt := 29) X d_Mc_push_6 (by decide) (by first | omega | (dsimp only; omega) | (simp only [] at *; omega)) (by first | omega | (dsimp only; omega) | (simp only [] at *; omega)) (fun h6 => ?_) (fun h6 => ?_)
  · rw [mc_push, if_pos h6]
    exact V.vret X d_Mc_push_29 rfl rfl
  · rw [mc_push, if_neg (Nat.not_le.mpr h6)]
    refine V.aload_n X d_Mc_push_9 rfl ?_
    refine g_Mc_stack X k_Mc_28 d_Mc_push_10 ?_
    refine V.aload_n X d_Mc_push_13 rfl ?_
    refine g_Mc_top X k_Mc_31 d_Mc_push_14 ?_
    refine V.iload_n X d_Mc_push_17 rfl ?_
    refine s_Mc_stack X (by first | omega | (dsimp only; omega) | (simp only [] at *; omega)) d_Mc_push_18 ?_
    refine V.aload_n X d_Mc_push_19 rfl ?_
    refine V.dup X d_Mc_push_20 rfl ?_
    refine g_Mc_top X k_Mc_31 d_Mc_push_21 ?_
    refine V.iconst (v := nI 1) X d_Mc_push_24 (by decide +kernel) ?_
    refine V.iadd X d_Mc_push_25 (nI_add _ _) ?_
    refine p_Mc_top X k_Mc_31 d_Mc_push_26 ?_
    exact V.vret X d_Mc_push_29 rfl rfl
set_option maxHeartbeats 4000000 in
set_option maxRecDepth 100000 in
theorem c_Mc_pop {l : Launch} {z : Zt} {a u w : Nat → Nat} {P : Pm} {F : Int32} {T : Tk} {N : Nm} {C D : Co} {M : Mc} (h : Nat) (ht : M.2.2.2.2.1 ≤ 21) : XC l (Gz z) (h) y_Mc_pop b_Mc_pop 1 (some .int) [.ref (a 13)] (cw z a u w P F T N C D M) (.inl (some (.int (mc_pop M).1))) (cw z a u w P F T N C D (mc_pop M).2) := by
  refine XC.ofV (by decide +kernel) rfl ?_
  intro p e s m below meth c X hnm
  refine V.lvs (lv' := [(0, .ref (a 13))]) rfl ?_
  refine V.aload_n X d_Mc_pop_0 rfl ?_
  refine g_Mc_top X k_Mc_31 d_Mc_pop_1 ?_
  refine V.ifN_ne (tgt := 9) X d_Mc_pop_4 (by decide) (by first | omega | (dsimp only; omega) | (simp only [] at *; omega)) (fun h4 => ?_) (fun h4 => ?_)
  · rw [mc_pop, if_neg h4]
    refine V.aload_n X d_Mc_pop_9 rfl ?_
    refine V.dup X d_Mc_pop_10 rfl ?_
    refine g_Mc_top X k_Mc_31 d_Mc_pop_11 ?_
    refine V.iconst (v := nI 1) X d_Mc_pop_14 (by decide +kernel) ?_
    refine V.isub X d_Mc_pop_15 (pk_sub (by first | omega | (dsimp only; omega) | (simp only [] at *; omega))) ?_
    refine p_Mc_top X k_Mc_31 d_Mc_pop_16 ?_
    refine V.aload_n X d_Mc_pop_19 rfl ?_
    refine g_Mc_stack X k_Mc_28 d_Mc_pop_20 ?_
    refine V.aload_n X d_Mc_pop_23 rfl ?_
    refine g_Mc_top X k_Mc_31 d_Mc_pop_24 ?_
    refine l_Mc_stack X (by first | omega | (dsimp only; omega) | (simp only [] at *; omega)) d_Mc_pop_27 ?_
    exact V.iret X d_Mc_pop_28 rfl rfl
  · rw [mc_pop, if_pos h4]
    refine V.iconst (v := nI 0) X d_Mc_pop_7 (by decide +kernel) ?_
    exact V.iret X d_Mc_pop_8 rfl rfl
set_option maxHeartbeats 4000000 in
set_option maxRecDepth 100000 in
theorem c_Mc_put {l : Launch} {z : Zt} {a u w : Nat → Nat} {P : Pm} {F : Int32} {T : Tk} {N : Nm} {C D : Co} {M : Mc} (h : Nat) {x : Int32} (ht : M.2.2.2.2.2.2.2.2.1 < 2 ^ 31) : XC l (Gz z) (h) y_Mc_put b_Mc_put 2 none [.ref (a 13), .int x] (cw z a u w P F T N C D M) (.inl none) (cw z a u w P F T N C D (mc_put M x)) := by
  refine XC.ofV (by decide +kernel) rfl ?_
  intro p e s m below meth c X hnm
  refine V.lvs (lv' := [(0, .ref (a 13)), (1, .int x)]) rfl ?_
  refine V.aload_n X d_Mc_put_0 rfl ?_
  refine g_Mc_written X k_Mc_44 d_Mc_put_1 ?_
  refine V.bipush (v := nI 32) X d_Mc_put_4 (by decide +kernel) ?_
  refine V.cmpN_ge (tgt := 32) X d_Mc_put_6 (by decide) (by first | omega | (dsimp only; omega) | (simp only [] at *; omega)) (by first | omega | (dsimp only; omega) | (simp only [] at *; omega)) (fun h6 => ?_) (fun h6 => ?_)
  · rw [mc_put, if_pos h6]
    refine V.aload_n X d_Mc_put_32 rfl ?_
    refine V.dup X d_Mc_put_33 rfl ?_
    refine g_Mc_lost X k_Mc_47 d_Mc_put_34 ?_
    refine V.iconst (v := nI 1) X d_Mc_put_37 (by decide +kernel) ?_
    refine V.iadd X d_Mc_put_38 (nI_add _ _) ?_
    refine p_Mc_lost X k_Mc_47 d_Mc_put_39 ?_
    exact V.vret X d_Mc_put_42 rfl rfl
  · rw [mc_put, if_neg (Nat.not_le.mpr h6)]
    refine V.aload_n X d_Mc_put_9 rfl ?_
    refine g_Mc_values X k_Mc_41 d_Mc_put_10 ?_
    refine V.aload_n X d_Mc_put_13 rfl ?_
    refine g_Mc_written X k_Mc_44 d_Mc_put_14 ?_
    refine V.iload_n X d_Mc_put_17 rfl ?_
    refine s_Mc_values X (by first | omega | (dsimp only; omega) | (simp only [] at *; omega)) d_Mc_put_18 ?_
    refine V.aload_n X d_Mc_put_19 rfl ?_
    refine V.dup X d_Mc_put_20 rfl ?_
    refine g_Mc_written X k_Mc_44 d_Mc_put_21 ?_
    refine V.iconst (v := nI 1) X d_Mc_put_24 (by decide +kernel) ?_
    refine V.iadd X d_Mc_put_25 (nI_add _ _) ?_
    refine p_Mc_written X k_Mc_44 d_Mc_put_26 ?_
    refine V.goto (tgt := 42) X d_Mc_put_29 (by decide) ?_
    exact V.vret X d_Mc_put_42 rfl rfl
set_option maxHeartbeats 4000000 in
set_option maxRecDepth 100000 in
theorem c_Mc_leave {l : Launch} {z : Zt} {a u w : Nat → Nat} {P : Pm} {F : Int32} {T : Tk} {N : Nm} {C D : Co} {M : Mc} (h : Nat) (hd : M.2.2.2.2.2.1 < 11) : XC l (Gz z) (h) y_Mc_leave b_Mc_leave 1 none [.ref (a 13)] (cw z a u w P F T N C D M) (.inl none) (cw z a u w P F T N C D (mc_leave D M)) := by
  refine XC.ofV (by decide +kernel) rfl ?_
  intro p e s m below meth c X hnm
  refine V.lvs (lv' := [(0, .ref (a 13))]) rfl ?_
  refine V.aload_n X d_Mc_leave_0 rfl ?_
  refine g_Mc_depth X k_Mc_35 d_Mc_leave_1 ?_
  refine V.ifN_ne (tgt := 21) X d_Mc_leave_4 (by decide) (by first | omega | (dsimp only; omega) | (simp only [] at *; omega)) (fun h4 => ?_) (fun h4 => ?_)
  · rw [mc_leave, if_neg h4]
    refine V.aload_n X d_Mc_leave_21 rfl ?_
    refine V.aload_n X d_Mc_leave_22 rfl ?_
    refine g_Mc_returns X k_Mc_25 d_Mc_leave_23 ?_
    refine V.aload_n X d_Mc_leave_26 rfl ?_
    refine g_Mc_depth X k_Mc_35 d_Mc_leave_27 ?_
    refine l_Mc_returns X (by first | omega | (dsimp only; omega) | (simp only [] at *; omega)) d_Mc_leave_30 ?_
    refine p_Mc_next X k_Mc_38 d_Mc_leave_31 ?_
    refine V.aload_n X d_Mc_leave_34 rfl ?_
    refine V.dup X d_Mc_leave_35 rfl ?_
    refine g_Mc_depth X k_Mc_35 d_Mc_leave_36 ?_
    refine V.iconst (v := nI 1) X d_Mc_leave_39 (by decide +kernel) ?_
    refine V.isub X d_Mc_leave_40 (pk_sub (by first | omega | (dsimp only; omega) | (simp only [] at *; omega))) ?_
    refine p_Mc_depth X k_Mc_35 d_Mc_leave_41 ?_
    exact V.vret X d_Mc_leave_44 rfl rfl
  · rw [mc_leave, if_pos h4]
    refine V.aload_n X d_Mc_leave_7 rfl ?_
    refine V.aload_n X d_Mc_leave_8 rfl ?_
    refine g_Mc_program X k_Mc_14 d_Mc_leave_9 ?_
    refine g_Cd_size X k_Mc_60 d_Mc_leave_12 ?_
    refine p_Mc_next X k_Mc_38 d_Mc_leave_15 ?_
    refine V.goto (tgt := 44) X d_Mc_leave_18 (by decide) ?_
    exact V.vret X d_Mc_leave_44 rfl rfl
set_option maxHeartbeats 4000000 in
set_option maxRecDepth 100000 in
theorem c_Mc_takeStep {l : Launch} {z : Zt} {a u w : Nat → Nat} {P : Pm} {F : Int32} {T : Tk} {N : Nm} {C D : Co} {M : Mc} (h : Nat) (hs : M.2.2.2.2.2.2.2.2.2.2.1 ≤ 400) (h4 : M.2.2.2.2.2.2.2.2.2.2.1 ≠ 400) : XC l (Gz z) (h) y_Mc_takeStep b_Mc_takeStep 1 none [.ref (a 13)] (cw z a u w P F T N C D M) (.inl none) (cw z a u w P F T N C D (mc_step M)) := by
  refine XC.ofV (by decide +kernel) rfl ?_
  intro p e s m below meth c X hnm
  refine V.lvs (lv' := [(0, .ref (a 13))]) rfl ?_
  refine V.aload_n X d_Mc_takeStep_0 rfl ?_
  refine g_Mc_steps X k_Mc_50 d_Mc_takeStep_1 ?_
  refine V.sipush (v := nI 400) X d_Mc_takeStep_4 (by decide +kernel) ?_
  refine V.cmpN_ne (tgt := 18) X d_Mc_takeStep_7 (by decide) (by first | omega | (dsimp only; omega) | (simp only [] at *; omega)) (by first | omega | (dsimp only; omega) | (simp only [] at *; omega)) (fun h7 => ?_) (fun h7 => absurd h7 (fun q => h4 q))
  refine V.aload_n X d_Mc_takeStep_18 rfl ?_
  refine V.dup X d_Mc_takeStep_19 rfl ?_
  refine g_Mc_steps X k_Mc_50 d_Mc_takeStep_20 ?_
  refine V.iconst (v := nI 1) X d_Mc_takeStep_23 (by decide +kernel) ?_
  refine V.iadd X d_Mc_takeStep_24 (nI_add _ _) ?_
  refine p_Mc_steps X k_Mc_50 d_Mc_takeStep_25 ?_
  exact V.vret X d_Mc_takeStep_28 rfl rfl
set_option maxHeartbeats 4000000 in
set_option maxRecDepth 100000 in
theorem c_Mc_takeStepX {l : Launch} {z : Zt} {a u w : Nat → Nat} {P : Pm} {F : Int32} {T : Tk} {N : Nm} {C D : Co} {M : Mc} (h : Nat) (hlt : l.stackTraces = false) (h4 : M.2.2.2.2.2.2.2.2.2.2.1 = 400) : XC l (Gz z) (h) y_Mc_takeStep b_Mc_takeStep 1 none [.ref (a 13)] (cw z a u w P F T N C D M) (.inr ISE) (cw z a u w P F T N C D M) := by
  refine XC.ofV (by decide +kernel) rfl ?_
  intro p e s m below meth c X hnm
  refine V.lvs (lv' := [(0, .ref (a 13))]) rfl ?_
  refine V.aload_n X d_Mc_takeStep_0 rfl ?_
  refine g_Mc_steps X k_Mc_50 d_Mc_takeStep_1 ?_
  refine V.sipush (v := nI 400) X d_Mc_takeStep_4 (by decide +kernel) ?_
  refine V.cmpN_ne (tgt := 18) X d_Mc_takeStep_7 (by decide) (by first | omega | (dsimp only; omega) | (simp only [] at *; omega)) (by first | omega | (dsimp only; omega) | (simp only [] at *; omega)) (fun h7 => absurd h7 (fun q => q h4)) (fun h7 => ?_)
  exact x_Mc_122 X hlt d_Mc_takeStep_10 d_Mc_takeStep_13 d_Mc_takeStep_14 d_Mc_takeStep_17 rfl rfl rfl
set_option maxHeartbeats 4000000 in
set_option maxRecDepth 100000 in
theorem c_Mc_frameOutward {l : Launch} {z : Zt} {a u w : Nat → Nat} {P : Pm} {F : Int32} {T : Tk} {N : Nm} {C D : Co} {M : Mc} (h : Nat) {k : Nat} (hk : k < 2 ^ 31) (hof : ∀ f, f < 11 → M.2.1 f < 11) (hd : M.2.2.2.2.2.1 < 11) : XC l (Gz z) (h) y_Mc_frameOutward b_Mc_frameOutward 4 (some .int) [.ref (a 13), .int (nI k)] (cw z a u w P F T N C D M) (.inl (some (.int (nI (mc_out M k M.2.2.2.2.2.1))))) (cw z a u w P F T N C D M) := by
  refine XC.ofV (by decide +kernel) rfl ?_
  intro p e s m below meth c X hnm
  refine V.lvs (lv' := [(0, .ref (a 13)), (1, .int (nI k))]) rfl ?_
  refine V.aload_n X d_Mc_frameOutward_0 rfl ?_
  refine g_Mc_depth X k_Mc_35 d_Mc_frameOutward_1 ?_
  refine V.istore_n (lv' := [(0, _), (1, _), (2, _)]) X d_Mc_frameOutward_4 (by decide) rfl ?_
  refine V.iconst (v := nI 0) X d_Mc_frameOutward_5 (by decide +kernel) ?_
  refine V.istore_n (lv' := [(0, _), (1, _), (2, _), (3, _)]) X d_Mc_frameOutward_6 (by decide) rfl ?_
  suffices loop7 : ∀ n f i : Nat, i + n = k → f < 11 → V p l e (Rm (h)) s m ([.ref (a 13), .int (nI k)] : List Value).toArray below meth c (Gz z) 4 0 0 (XE below (Gz z) (.inl (some (.int (nI (mc_out M n f))))) (cw z a u w P F T N C D M) ([.ref (a 13), .int (nI k)] : List Value).toArray s) (cw z a u w P F T N C D M) 7 [(0, .ref (a 13)), (1, .int (nI k)), (2, .int (nI f)), (3, .int (nI i))] [] from loop7 k M.2.2.2.2.2.1 0 (Nat.zero_add k) hd
  intro n
  induction n with
  | zero =>
    intro f i hi hf
    refine V.iload_n X d_Mc_frameOutward_7 rfl ?_
    refine V.iload_n X d_Mc_frameOutward_8 rfl ?_
    refine V.cmpN_ge (tgt := 25) X d_Mc_frameOutward_9 (by decide) (by first | omega | (dsimp only; omega) | (simp only [] at *; omega)) (by first | omega | (dsimp only; omega) | (simp only [] at *; omega)) (fun h9 => ?_) (fun h9 => absurd h9 (by omega))
    refine V.iload_n X d_Mc_frameOutward_25 rfl ?_
    exact V.iret X d_Mc_frameOutward_26 rfl rfl
  | succ n ih =>
    intro f i hi hf
    have hof1 := hof f hf
    refine V.iload_n X d_Mc_frameOutward_7 rfl ?_
    refine V.iload_n X d_Mc_frameOutward_8 rfl ?_
    refine V.cmpN_ge (tgt := 25) X d_Mc_frameOutward_9 (by decide) (by first | omega | (dsimp only; omega) | (simp only [] at *; omega)) (by first | omega | (dsimp only; omega) | (simp only [] at *; omega)) (fun h9 => absurd h9 (by omega)) (fun h9 => ?_)
    refine V.aload_n X d_Mc_frameOutward_12 rfl ?_
    refine g_Mc_outerFrames X k_Mc_22 d_Mc_frameOutward_13 ?_
    refine V.iload_n X d_Mc_frameOutward_16 rfl ?_
    refine l_Mc_outerFrames X (by first | omega | (dsimp only; omega) | (simp only [] at *; omega)) d_Mc_frameOutward_17 ?_
    refine V.istore_n (lv' := [(0, _), (1, _), (2, _), (3, _)]) X d_Mc_frameOutward_18 (by decide) rfl ?_
    refine V.iinc (lv' := [(0, _), (1, _), (2, _), (3, _)]) X d_Mc_frameOutward_19 rfl (show _ + nI 1 = _ from nI_add _ 1) (by decide) rfl ?_
    refine V.goto (tgt := 7) X d_Mc_frameOutward_22 (by decide) ?_
    exact ih _ _ (by omega) hof1
set_option maxHeartbeats 4000000 in
set_option maxRecDepth 100000 in
theorem c_Mc_address {l : Launch} {z : Zt} {a u w : Nat → Nat} {P : Pm} {F : Int32} {T : Tk} {N : Nm} {C D : Co} {M : Mc} (h : Nat) {k t : Nat} (hk : k < 2 ^ 31) (hof : ∀ f, f < 11 → M.2.1 f < 11) (hd : M.2.2.2.2.2.1 < 11) : XC l (Gz z) (h + 1) y_Mc_address b_Mc_address 3 (some .int) [.ref (a 13), .int (nI k), .int (nI t)] (cw z a u w P F T N C D M) (.inl (some (.int (nI (mc_addr M k t))))) (cw z a u w P F T N C D M) := by
  refine XC.ofV (by decide +kernel) rfl ?_
  intro p e s m below meth c X hnm
  refine V.lvs (lv' := [(0, .ref (a 13)), (1, .int (nI k)), (2, .int (nI t))]) rfl ?_
  refine V.aload_n X d_Mc_address_0 rfl ?_
  refine V.iload_n X d_Mc_address_1 rfl ?_
  refine V.callV1 X (c_Mc_frameOutward h hk hof hd) Y_Mc_frameOutward k_Mc_105 13 rfl rfl rfl rfl rfl (Rok.lt (by omega)) d_Mc_address_2 ?_
  refine V.bipush (v := nI 12) X d_Mc_address_5 (by decide +kernel) ?_
  refine V.imul X d_Mc_address_7 (pk_mul _ _) ?_
  refine V.iload_n X d_Mc_address_8 rfl ?_
  refine V.iadd X d_Mc_address_9 (nI_add _ _) ?_
  exact V.iret X d_Mc_address_10 rfl rfl
def mc_clr (M : Mc) (i : Nat) : Mc := (fun j => if M.2.2.2.2.2.1 * 12 ≤ j ∧ j < M.2.2.2.2.2.1 * 12 + i then nI 0 else M.1 j, M.2.1, M.2.2.1, M.2.2.2.1, M.2.2.2.2.1, M.2.2.2.2.2.1, M.2.2.2.2.2.2.1, M.2.2.2.2.2.2.2.1, M.2.2.2.2.2.2.2.2.1, M.2.2.2.2.2.2.2.2.2.1, M.2.2.2.2.2.2.2.2.2.2.1, M.2.2.2.2.2.2.2.2.2.2.2)
theorem mc_clr_0 (M : Mc) : mc_clr M 0 = M := by
  have e : (fun j => if M.2.2.2.2.2.1 * 12 ≤ j ∧ j < M.2.2.2.2.2.1 * 12 + 0 then nI 0 else M.1 j) = M.1 := by
    funext j
    rw [if_neg (by omega)]
  unfold mc_clr
  rw [e]
theorem mc_clr_s {M : Mc} {i : Nat} (h : M.2.2.2.2.2.1 * 12 + i < 132) : mc_st (mc_clr M i) (nI (M.2.2.2.2.2.1 * 12 + i)) (nI 0) = mc_clr M (i + 1) := by
  rw [mc_stN h]
  have e : upd (fun j => if M.2.2.2.2.2.1 * 12 ≤ j ∧ j < M.2.2.2.2.2.1 * 12 + i then nI 0 else M.1 j) (M.2.2.2.2.2.1 * 12 + i) (nI 0) = fun j => if M.2.2.2.2.2.1 * 12 ≤ j ∧ j < M.2.2.2.2.2.1 * 12 + (i + 1) then nI 0 else M.1 j := by
    funext j
    unfold upd
    by_cases q : j = M.2.2.2.2.2.1 * 12 + i
    · rw [if_pos q, if_pos (by omega)]
    · rw [if_neg q]
      dsimp only
      by_cases q2 : M.2.2.2.2.2.1 * 12 ≤ j ∧ j < M.2.2.2.2.2.1 * 12 + i
      · rw [if_pos q2, if_pos (by omega)]
      · rw [if_neg q2, if_neg (by omega)]
  show (upd (fun j => if M.2.2.2.2.2.1 * 12 ≤ j ∧ j < M.2.2.2.2.2.1 * 12 + i then nI 0 else M.1 j) (M.2.2.2.2.2.1 * 12 + i) (nI 0), M.2.1, M.2.2.1, M.2.2.2.1, M.2.2.2.2.1, M.2.2.2.2.2.1, M.2.2.2.2.2.2.1, M.2.2.2.2.2.2.2.1, M.2.2.2.2.2.2.2.2.1, M.2.2.2.2.2.2.2.2.2.1, M.2.2.2.2.2.2.2.2.2.2.1, M.2.2.2.2.2.2.2.2.2.2.2) = _
  rw [e]
  rfl
set_option maxHeartbeats 4000000 in
set_option maxRecDepth 100000 in
theorem c_Mc_clearFrame {l : Launch} {z : Zt} {a u w : Nat → Nat} {P : Pm} {F : Int32} {T : Tk} {N : Nm} {C D : Co} {M : Mc} (h : Nat) (hd : M.2.2.2.2.2.1 < 11) : XC l (Gz z) (h + 1) y_Mc_clearFrame b_Mc_clearFrame 2 none [.ref (a 13)] (cw z a u w P F T N C D M) (.inl none) (cw z a u w P F T N C D (mc_clr M 12)) := by
  refine XC.ofV (by decide +kernel) rfl ?_
  intro p e s m below meth c X hnm
  refine V.lvs (lv' := [(0, .ref (a 13))]) rfl ?_
  refine V.iconst (v := nI 0) X d_Mc_clearFrame_0 (by decide +kernel) ?_
  refine V.istore_n (lv' := [(0, _), (1, _)]) X d_Mc_clearFrame_1 (by decide) rfl ?_
  suffices loop2 : ∀ n i : Nat, i + n = 12 → V p l e (Rm (h + 1)) s m ([.ref (a 13)] : List Value).toArray below meth c (Gz z) 2 0 0 (XE below (Gz z) (.inl none) (cw z a u w P F T N C D (mc_clr M 12)) ([.ref (a 13)] : List Value).toArray s) (cw z a u w P F T N C D (mc_clr M i)) 2 [(0, .ref (a 13)), (1, .int (nI i))] [] from (by have q := loop2 12 0 rfl; rw [mc_clr_0] at q; exact q)
  intro n
  induction n with
  | zero =>
    intro i hi
    obtain rfl : i = 12 := by omega
    refine V.iload_n X d_Mc_clearFrame_2 rfl ?_
    refine V.bipush (v := nI 12) X d_Mc_clearFrame_3 (by decide +kernel) ?_
    refine V.cmpN_ge (tgt := 28) X d_Mc_clearFrame_5 (by decide) (by first | omega | (dsimp only; omega) | (simp only [] at *; omega)) (by first | omega | (dsimp only; omega) | (simp only [] at *; omega)) (fun h5 => ?_) (fun h5 => absurd h5 (by decide))
    exact V.vret X d_Mc_clearFrame_28 rfl rfl
  | succ n ih =>
    intro i hi
    refine V.iload_n X d_Mc_clearFrame_2 rfl ?_
    refine V.bipush (v := nI 12) X d_Mc_clearFrame_3 (by decide +kernel) ?_
    refine V.cmpN_ge (tgt := 28) X d_Mc_clearFrame_5 (by decide) (by first | omega | (dsimp only; omega) | (simp only [] at *; omega)) (by first | omega | (dsimp only; omega) | (simp only [] at *; omega)) (fun h5 => absurd h5 (by omega)) (fun h5 => ?_)
    refine V.aload_n X d_Mc_clearFrame_8 rfl ?_
    refine V.aload_n X d_Mc_clearFrame_9 rfl ?_
    refine g_Mc_depth X k_Mc_35 d_Mc_clearFrame_10 ?_
    refine V.bipush (v := nI 12) X d_Mc_clearFrame_13 (by decide +kernel) ?_
    refine V.imul X d_Mc_clearFrame_15 (pk_mul _ _) ?_
    refine V.iload_n X d_Mc_clearFrame_16 rfl ?_
    refine V.iadd X d_Mc_clearFrame_17 (nI_add _ _) ?_
    refine V.iconst (v := nI 0) X d_Mc_clearFrame_18 (by decide +kernel) ?_
    refine V.callV0 X (c_Mc_store h) Y_Mc_store k_Mc_82 13 rfl rfl rfl rfl rfl (Rok.lt (by omega)) d_Mc_clearFrame_19 ?_
    refine V.iinc (lv' := [(0, _), (1, _)]) X d_Mc_clearFrame_22 rfl (show _ + nI 1 = _ from nI_add _ 1) (by decide) rfl ?_
    refine V.goto (tgt := 2) X d_Mc_clearFrame_25 (by decide) ?_
    refine V.eqw (congrArg (cw z a u w P F T N C D) (mc_clr_s (M := M) (i := i) (by omega))) ?_
    exact ih _ (by omega)
