/-! ===== Machine: enter, begin, perform, execute ===== -/
theorem mc_pop_depth (M : Mc) : (mc_pop M).2.2.2.2.2.2.1 = M.2.2.2.2.2.1 := by
  unfold mc_pop
  split <;> rfl
theorem mc_st_depth (M : Mc) (x v : Int32) : (mc_st M x v).2.2.2.2.2.1 = M.2.2.2.2.2.1 := by
  unfold mc_st
  split <;> rfl
theorem mc_st_top (M : Mc) (x v : Int32) : (mc_st M x v).2.2.2.2.1 = M.2.2.2.2.1 := by
  unfold mc_st
  split <;> rfl
/-- the arguments, from the stack into the frame -/
def mc_args : Nat → Mc → Mc
  | 0, M => M
  | i + 1, M => mc_args i (mc_st (mc_pop M).2 (nI (M.2.2.2.2.2.1 * 12 + i)) (mc_pop M).1)
def mc_in (M : Mc) (f : Nat) : Mc := (M.1, va_up M.2.1 (M.2.2.2.2.2.1 + 1) f, va_up M.2.2.1 (M.2.2.2.2.2.1 + 1) M.2.2.2.2.2.2.1, M.2.2.2.1, M.2.2.2.2.1, M.2.2.2.2.2.1 + 1, M.2.2.2.2.2.2.1, M.2.2.2.2.2.2.2.1, M.2.2.2.2.2.2.2.2.1, M.2.2.2.2.2.2.2.2.2.1, M.2.2.2.2.2.2.2.2.2.2.1, max M.2.2.2.2.2.2.2.2.2.2.2 (M.2.2.2.2.2.1 + 1))
def mc_enter (D : Co) (M : Mc) (f q : Nat) : Mc := ((mc_args (D.2.2.2.2.1 q) (mc_clr (mc_in M f) 12)).1, (mc_args (D.2.2.2.2.1 q) (mc_clr (mc_in M f) 12)).2.1, (mc_args (D.2.2.2.2.1 q) (mc_clr (mc_in M f) 12)).2.2.1, (mc_args (D.2.2.2.2.1 q) (mc_clr (mc_in M f) 12)).2.2.2.1, (mc_args (D.2.2.2.2.1 q) (mc_clr (mc_in M f) 12)).2.2.2.2.1, (mc_args (D.2.2.2.2.1 q) (mc_clr (mc_in M f) 12)).2.2.2.2.2.1, D.2.2.2.1 q, (mc_args (D.2.2.2.2.1 q) (mc_clr (mc_in M f) 12)).2.2.2.2.2.2.2.1, (mc_args (D.2.2.2.2.1 q) (mc_clr (mc_in M f) 12)).2.2.2.2.2.2.2.2.1, (mc_args (D.2.2.2.2.1 q) (mc_clr (mc_in M f) 12)).2.2.2.2.2.2.2.2.2.1, (mc_args (D.2.2.2.2.1 q) (mc_clr (mc_in M f) 12)).2.2.2.2.2.2.2.2.2.2.1, (mc_args (D.2.2.2.2.1 q) (mc_clr (mc_in M f) 12)).2.2.2.2.2.2.2.2.2.2.2)
def mc_begin (D : Co) (M : Mc) : Mc := mc_clr (M.1, M.2.1, M.2.2.1, M.2.2.2.1, 0, 0, D.2.2.2.2.2.2.2, M.2.2.2.2.2.2.2.1, 0, 0, 0, 0) 12
set_option maxHeartbeats 4000000 in
set_option maxRecDepth 100000 in
theorem c_Mc_enter {l : Launch} {z : Zt} {a u w : Nat → Nat} {P : Pm} {F : Int32} {T : Tk} {N : Nm} {C D : Co} {M : Mc} (h : Nat) {f q : Nat} (hq : q < 6) (hd : M.2.2.2.2.2.1 < 10) (ht : M.2.2.2.2.1 ≤ 21) (hde : M.2.2.2.2.2.2.2.2.2.2.2 ≤ 10) (hpa : D.2.2.2.2.1 q ≤ 12) : XC l (Gz z) (h + 2) y_Mc_enter b_Mc_enter 4 none [.ref (a 13), .int (nI f), .int (nI q)] (cw z a u w P F T N C D M) (.inl none) (cw z a u w P F T N C D (mc_enter D M f q)) := by
  refine XC.ofV (by decide +kernel) rfl ?_
  intro p e s m below meth c X hnm
  refine V.lvs (lv' := [(0, .ref (a 13)), (1, .int (nI f)), (2, .int (nI q))]) rfl ?_
  refine V.aload_n X d_Mc_enter_0 rfl ?_
  refine g_Mc_depth X k_Mc_35 d_Mc_enter_1 ?_
  refine V.bipush (v := nI 10) X d_Mc_enter_4 (by decide +kernel) ?_
  refine V.cmpN_ne (tgt := 17) X d_Mc_enter_6 (by decide) (by first | omega | (dsimp only; omega) | (simp only [] at *; omega)) (by first | omega | (dsimp only; omega) | (simp only [] at *; omega)) (fun h6 => ?_) (fun h6 => absurd h6 (by omega))
  refine V.aload_n X d_Mc_enter_17 rfl ?_
  refine V.dup X d_Mc_enter_18 rfl ?_
  refine g_Mc_depth X k_Mc_35 d_Mc_enter_19 ?_
  refine V.iconst (v := nI 1) X d_Mc_enter_22 (by decide +kernel) ?_
  refine V.iadd X d_Mc_enter_23 (nI_add _ _) ?_
  refine p_Mc_depth X k_Mc_35 d_Mc_enter_24 ?_
  refine V.aload_n X d_Mc_enter_27 rfl ?_
  refine V.aload_n X d_Mc_enter_28 rfl ?_
  refine g_Mc_deepest X k_Mc_53 d_Mc_enter_29 ?_
  refine V.aload_n X d_Mc_enter_32 rfl ?_
  refine g_Mc_depth X k_Mc_35 d_Mc_enter_33 ?_
  refine V.callS1 X (c_JM_max (h + 1) (by dsimp only; omega) (by dsimp only; omega)) Y_JM_max k_Mc_141 rfl rfl rfl (Rok.lt (by omega)) d_Mc_enter_36 ?_
  refine p_Mc_deepest X k_Mc_53 d_Mc_enter_39 ?_
  refine V.aload_n X d_Mc_enter_42 rfl ?_
  refine g_Mc_outerFrames X k_Mc_22 d_Mc_enter_43 ?_
  refine V.aload_n X d_Mc_enter_46 rfl ?_
  refine g_Mc_depth X k_Mc_35 d_Mc_enter_47 ?_
  refine V.iload_n X d_Mc_enter_50 rfl ?_
  refine s_Mc_outerFrames X (by first | omega | (dsimp only; omega) | (simp only [] at *; omega)) d_Mc_enter_51 ?_
  refine V.aload_n X d_Mc_enter_52 rfl ?_
  refine g_Mc_returns X k_Mc_25 d_Mc_enter_53 ?_
  refine V.aload_n X d_Mc_enter_56 rfl ?_
  refine g_Mc_depth X k_Mc_35 d_Mc_enter_57 ?_
  refine V.aload_n X d_Mc_enter_60 rfl ?_
  refine g_Mc_next X k_Mc_38 d_Mc_enter_61 ?_
  refine s_Mc_returns X (by first | omega | (dsimp only; omega) | (simp only [] at *; omega)) d_Mc_enter_64 ?_
  refine V.aload_n X d_Mc_enter_65 rfl ?_
  refine V.callV0 X (c_Mc_clearFrame h (by dsimp only; omega)) Y_Mc_clearFrame k_Mc_79 13 rfl rfl rfl rfl rfl (Rok.lt (by omega)) d_Mc_enter_66 ?_
  refine V.eqw (ws' := cw z a u w P F T N C D (mc_clr (mc_in M f) 12)) rfl ?_
  refine V.aload_n X d_Mc_enter_69 rfl ?_
  refine g_Mc_program X k_Mc_14 d_Mc_enter_70 ?_
  refine g_Cd_parameters X k_Mc_146 d_Mc_enter_73 ?_
  refine V.iload_n X d_Mc_enter_76 rfl ?_
  refine l_Cd_parameters X (by first | omega | (dsimp only; omega) | (simp only [] at *; omega)) d_Mc_enter_77 ?_
  refine V.iconst (v := nI 1) X d_Mc_enter_78 (by decide +kernel) ?_
  refine V.isub X d_Mc_enter_79 (jI_sub _) ?_
  refine V.istore_n (lv' := [(0, _), (1, _), (2, _), (3, _)]) X d_Mc_enter_80 (by decide) rfl ?_
  suffices loop81 : ∀ (j : Nat) (K : Mc), j ≤ 12 → K.2.2.2.2.2.1 = M.2.2.2.2.2.1 + 1 → K.2.2.2.2.1 ≤ 21 → V p l e (Rm (h + 2)) s m ([.ref (a 13), .int (nI f), .int (nI q)] : List Value).toArray below meth c (Gz z) 4 0 0 (XE below (Gz z) (.inl none) (cw z a u w P F T N C D ((mc_args j K).1, (mc_args j K).2.1, (mc_args j K).2.2.1, (mc_args j K).2.2.2.1, (mc_args j K).2.2.2.2.1, (mc_args j K).2.2.2.2.2.1, D.2.2.2.1 q, (mc_args j K).2.2.2.2.2.2.2.1, (mc_args j K).2.2.2.2.2.2.2.2.1, (mc_args j K).2.2.2.2.2.2.2.2.2.1, (mc_args j K).2.2.2.2.2.2.2.2.2.2.1, (mc_args j K).2.2.2.2.2.2.2.2.2.2.2)) ([.ref (a 13), .int (nI f), .int (nI q)] : List Value).toArray s) (cw z a u w P F T N C D K) 81 [(0, .ref (a 13)), (1, .int (nI f)), (2, .int (nI q)), (3, .int (jI j))] [] from loop81 (D.2.2.2.2.1 q) (mc_clr (mc_in M f) 12) hpa rfl ht
  intro j
  induction j with
  | zero =>
    intro K hj hKd hKt
    refine V.lvs (lv' := [(0, .ref (a 13)), (1, .int (nI f)), (2, .int (nI q)), (3, .int (-1))]) rfl ?_
    refine V.iload_n X d_Mc_enter_81 rfl ?_
    refine V.if_lt (tgt := 108) X d_Mc_enter_82 (by decide) (fun _ => ?_) (fun h => absurd (by decide) h)
    refine V.aload_n X d_Mc_enter_108 rfl ?_
    refine V.aload_n X d_Mc_enter_109 rfl ?_
    refine g_Mc_program X k_Mc_14 d_Mc_enter_110 ?_
    refine g_Cd_entries X k_Mc_149 d_Mc_enter_113 ?_
    refine V.iload_n X d_Mc_enter_116 rfl ?_
    refine l_Cd_entries X (by first | omega | (dsimp only; omega) | (simp only [] at *; omega)) d_Mc_enter_117 ?_
    refine p_Mc_next X k_Mc_38 d_Mc_enter_118 ?_
    exact V.vret X d_Mc_enter_121 rfl rfl
  | succ j ih =>
    intro K hj hKd hKt
    refine V.lvs (lv' := [(0, .ref (a 13)), (1, .int (nI f)), (2, .int (nI q)), (3, .int (nI j))]) rfl ?_
    refine V.iload_n X d_Mc_enter_81 rfl ?_
    refine V.ifN_lt (tgt := 108) X d_Mc_enter_82 (by decide) (by first | omega | (dsimp only; omega) | (simp only [] at *; omega)) ?_
    refine V.aload_n X d_Mc_enter_85 rfl ?_
    refine V.aload_n X d_Mc_enter_86 rfl ?_
    refine g_Mc_depth X k_Mc_35 d_Mc_enter_87 ?_
    refine V.bipush (v := nI 12) X d_Mc_enter_90 (by decide +kernel) ?_
    refine V.imul X d_Mc_enter_92 (pk_mul _ _) ?_
    refine V.iload_n X d_Mc_enter_93 rfl ?_
    refine V.iadd X d_Mc_enter_94 (nI_add _ _) ?_
    refine V.aload_n X d_Mc_enter_95 rfl ?_
    refine V.callV1 X (c_Mc_pop (h + 1) hKt) Y_Mc_pop k_Mc_101 13 rfl rfl rfl rfl rfl (Rok.lt (by omega)) d_Mc_enter_96 ?_
    refine V.callV0 X (c_Mc_store (h + 1)) Y_Mc_store k_Mc_82 13 rfl rfl rfl rfl rfl (Rok.lt (by omega)) d_Mc_enter_99 ?_
    refine V.iinc (lv' := [(0, _), (1, _), (2, _), (3, _)]) X d_Mc_enter_102 rfl (jI_dec _) (by decide) rfl ?_
    refine V.goto (tgt := 81) X d_Mc_enter_105 (by decide) ?_
    exact ih _ (by omega) (by rw [mc_st_depth, mc_pop_depth]; exact hKd) (by rw [mc_st_top]; exact mc_pop_top hKt)
set_option maxHeartbeats 4000000 in
set_option maxRecDepth 100000 in
theorem c_Mc_enterX {l : Launch} {z : Zt} {a u w : Nat → Nat} {P : Pm} {F : Int32} {T : Tk} {N : Nm} {C D : Co} {M : Mc} (h : Nat) (hlt : l.stackTraces = false) {f q : Nat} (hd : M.2.2.2.2.2.1 = 10) : XC l (Gz z) (h + 2) y_Mc_enter b_Mc_enter 4 none [.ref (a 13), .int (nI f), .int (nI q)] (cw z a u w P F T N C D M) (.inr IOE) (cw z a u w P F T N C D M) := by
  refine XC.ofV (by decide +kernel) rfl ?_
  intro p e s m below meth c X hnm
  refine V.lvs (lv' := [(0, .ref (a 13)), (1, .int (nI f)), (2, .int (nI q))]) rfl ?_
  refine V.aload_n X d_Mc_enter_0 rfl ?_
  refine g_Mc_depth X k_Mc_35 d_Mc_enter_1 ?_
  refine V.bipush (v := nI 10) X d_Mc_enter_4 (by decide +kernel) ?_
  refine V.cmpN_ne (tgt := 17) X d_Mc_enter_6 (by decide) (by first | omega | (dsimp only; omega) | (simp only [] at *; omega)) (by first | omega | (dsimp only; omega) | (simp only [] at *; omega)) (fun h6 => absurd h6 (fun q => q hd)) (fun h6 => ?_)
  exact x_Mc_140 X hlt d_Mc_enter_9 d_Mc_enter_12 d_Mc_enter_13 d_Mc_enter_16 rfl rfl rfl
set_option maxHeartbeats 4000000 in
set_option maxRecDepth 100000 in
theorem c_Mc_begin {l : Launch} {z : Zt} {a u w : Nat → Nat} {P : Pm} {F : Int32} {T : Tk} {N : Nm} {C D : Co} {M : Mc} (h : Nat)  : XC l (Gz z) (h + 2) y_Mc_begin b_Mc_begin 1 none [.ref (a 13)] (cw z a u w P F T N C D M) (.inl none) (cw z a u w P F T N C D (mc_begin D M)) := by
  refine XC.ofV (by decide +kernel) rfl ?_
  intro p e s m below meth c X hnm
  refine V.lvs (lv' := [(0, .ref (a 13))]) rfl ?_
  refine V.aload_n X d_Mc_begin_0 rfl ?_
  refine V.aload_n X d_Mc_begin_1 rfl ?_
  refine g_Mc_program X k_Mc_14 d_Mc_begin_2 ?_
  refine g_Cd_start X k_Mc_76 d_Mc_begin_5 ?_
  refine p_Mc_next X k_Mc_38 d_Mc_begin_8 ?_
  refine V.aload_n X d_Mc_begin_11 rfl ?_
  refine V.iconst (v := nI 0) X d_Mc_begin_12 (by decide +kernel) ?_
  refine p_Mc_top X k_Mc_31 d_Mc_begin_13 ?_
  refine V.aload_n X d_Mc_begin_16 rfl ?_
  refine V.iconst (v := nI 0) X d_Mc_begin_17 (by decide +kernel) ?_
  refine p_Mc_depth X k_Mc_35 d_Mc_begin_18 ?_
  refine V.aload_n X d_Mc_begin_21 rfl ?_
  refine V.iconst (v := nI 0) X d_Mc_begin_22 (by decide +kernel) ?_
  refine p_Mc_written X k_Mc_44 d_Mc_begin_23 ?_
  refine V.aload_n X d_Mc_begin_26 rfl ?_
  refine V.iconst (v := nI 0) X d_Mc_begin_27 (by decide +kernel) ?_
  refine p_Mc_lost X k_Mc_47 d_Mc_begin_28 ?_
  refine V.aload_n X d_Mc_begin_31 rfl ?_
  refine V.iconst (v := nI 0) X d_Mc_begin_32 (by decide +kernel) ?_
  refine p_Mc_steps X k_Mc_50 d_Mc_begin_33 ?_
  refine V.aload_n X d_Mc_begin_36 rfl ?_
  refine V.iconst (v := nI 0) X d_Mc_begin_37 (by decide +kernel) ?_
  refine p_Mc_deepest X k_Mc_53 d_Mc_begin_38 ?_
  refine V.aload_n X d_Mc_begin_41 rfl ?_
  refine V.callV0 X (c_Mc_clearFrame h (by dsimp only; omega)) Y_Mc_clearFrame k_Mc_79 13 rfl rfl rfl rfl rfl (Rok.lt (by omega)) d_Mc_begin_42 ?_
  exact V.vret X d_Mc_begin_45 rfl rfl
def mc_perform (D : Co) (M : Mc) (x f t : Nat) : Option String × Mc := match x with
  | 0 => if M.2.2.2.2.2.2.2.2.2.2.1 = 400 then (some ISE, M) else (none, mc_step M)
  | 1 => (none, mc_push M (nI f))
  | 2 => (none, mc_push M (mc_ld M (nI (mc_addr M f t))))
  | 3 => (none, mc_push M (mc_ld M (mc_ld M (nI (mc_addr M f t)))))
  | 4 => (none, mc_push M (nI (mc_addr M f t)))
  | 5 => (none, mc_st (mc_pop M).2 (nI (mc_addr M f t)) (mc_pop M).1)
  | 6 => (none, mc_st (mc_pop M).2 (mc_ld M (nI (mc_addr M f t))) (mc_pop M).1)
  | 7 => (none, mc_push (mc_pop M).2 (-(mc_pop M).1))
  | 16 => (none, (M.1, M.2.1, M.2.2.1, M.2.2.2.1, M.2.2.2.2.1, M.2.2.2.2.2.1, f, M.2.2.2.2.2.2.2.1, M.2.2.2.2.2.2.2.2.1, M.2.2.2.2.2.2.2.2.2.1, M.2.2.2.2.2.2.2.2.2.2.1, M.2.2.2.2.2.2.2.2.2.2.2))
  | 17 => (none, if (mc_pop M).1 = 0 then ((mc_pop M).2.1, (mc_pop M).2.2.1, (mc_pop M).2.2.2.1, (mc_pop M).2.2.2.2.1, (mc_pop M).2.2.2.2.2.1, (mc_pop M).2.2.2.2.2.2.1, f, (mc_pop M).2.2.2.2.2.2.2.2.1, (mc_pop M).2.2.2.2.2.2.2.2.2.1, (mc_pop M).2.2.2.2.2.2.2.2.2.2.1, (mc_pop M).2.2.2.2.2.2.2.2.2.2.2.1, (mc_pop M).2.2.2.2.2.2.2.2.2.2.2.2) else (mc_pop M).2)
  | 18 => if M.2.2.2.2.2.1 = 10 then (some IOE, M) else (none, mc_enter D M (mc_out M f M.2.2.2.2.2.1) t)
  | 19 => (none, mc_leave D M)
  | 20 => (none, mc_put (mc_pop M).2 (mc_pop M).1)
  | 11 => if (mc_two M).2.1 = 0 then (some ARE, (mc_two M).2.2) else (none, mc_comb M 11)
  | 12 => if (mc_two M).2.1 = 0 then (some ARE, (mc_two M).2.2) else (none, mc_comb M 12)
  | x => (none, mc_comb M x)
def oc_of : Option String → Oc
  | none => .inl none
  | some E => .inr E
set_option maxHeartbeats 4000000 in
set_option maxRecDepth 100000 in
theorem c_Mc_perform0 {l : Launch} {z : Zt} {a u w : Nat → Nat} {P : Pm} {F : Int32} {T : Tk} {N : Nm} {C D : Co} {M : Mc} (h : Nat) (hlt : l.stackTraces = false) {f t : Nat} (hf : f < 2 ^ 31) (hof : ∀ f, f < 11 → M.2.1 f < 11) (hd : M.2.2.2.2.2.1 < 11) (ht : M.2.2.2.2.1 ≤ 21) (hs : M.2.2.2.2.2.2.2.2.2.2.1 ≤ 400) (hwr : M.2.2.2.2.2.2.2.2.1 ≤ 32) (hde : M.2.2.2.2.2.2.2.2.2.2.2 ≤ 10) (h4 : M.2.2.2.2.2.2.2.2.2.2.1 ≠ 400) : XC l (Gz z) (h + 3) y_Mc_perform b_Mc_perform 4 none [.ref (a 13), .int (nI 0), .int (nI f), .int (nI t)] (cw z a u w P F T N C D M) (.inl none) (cw z a u w P F T N C D (mc_perform D M 0 f t).2) := by
  refine XC.ofV (by decide +kernel) rfl ?_
  intro p e s m below meth c X hnm
  refine V.lvs (lv' := [(0, .ref (a 13)), (1, .int (nI 0)), (2, .int (nI f)), (3, .int (nI t))]) rfl ?_
  rw [show mc_perform D M 0 f t = (none, mc_step M) from if_neg h4]
  refine V.iload_n X d_Mc_perform_0 rfl ?_
  refine V.tableIn (off := 99) (tgt := 100) X d_Mc_perform_1 (by decide +kernel) (by decide +kernel) (by decide +kernel) (by decide) ?_
  refine V.aload_n X d_Mc_perform_100 rfl ?_
  refine V.callV0 X (c_Mc_takeStep (h + 2) hs h4) Y_Mc_takeStep k_Mc_86 13 rfl rfl rfl rfl rfl (Rok.lt (by omega)) d_Mc_perform_101 ?_
  refine V.goto (tgt := 282) X d_Mc_perform_104 (by decide) ?_
  exact V.vret X d_Mc_perform_282 rfl rfl
set_option maxHeartbeats 4000000 in
set_option maxRecDepth 100000 in
theorem c_Mc_perform0X {l : Launch} {z : Zt} {a u w : Nat → Nat} {P : Pm} {F : Int32} {T : Tk} {N : Nm} {C D : Co} {M : Mc} (h : Nat) (hlt : l.stackTraces = false) {f t : Nat} (hf : f < 2 ^ 31) (hof : ∀ f, f < 11 → M.2.1 f < 11) (hd : M.2.2.2.2.2.1 < 11) (ht : M.2.2.2.2.1 ≤ 21) (hs : M.2.2.2.2.2.2.2.2.2.2.1 ≤ 400) (hwr : M.2.2.2.2.2.2.2.2.1 ≤ 32) (hde : M.2.2.2.2.2.2.2.2.2.2.2 ≤ 10) (h4 : M.2.2.2.2.2.2.2.2.2.2.1 = 400) : XC l (Gz z) (h + 3) y_Mc_perform b_Mc_perform 4 none [.ref (a 13), .int (nI 0), .int (nI f), .int (nI t)] (cw z a u w P F T N C D M) (.inr ISE) (cw z a u w P F T N C D (mc_perform D M 0 f t).2) := by
  refine XC.ofV (by decide +kernel) rfl ?_
  intro p e s m below meth c X hnm
  refine V.lvs (lv' := [(0, .ref (a 13)), (1, .int (nI 0)), (2, .int (nI f)), (3, .int (nI t))]) rfl ?_
  rw [show mc_perform D M 0 f t = (some ISE, M) from if_pos h4]
  refine V.iload_n X d_Mc_perform_0 rfl ?_
  refine V.tableIn (off := 99) (tgt := 100) X d_Mc_perform_1 (by decide +kernel) (by decide +kernel) (by decide +kernel) (by decide) ?_
  refine V.aload_n X d_Mc_perform_100 rfl ?_
  exact V.callVX X (c_Mc_takeStepX (h + 2) hlt h4) Y_Mc_takeStep k_Mc_86 13 rfl rfl rfl rfl rfl (Rok.lt (by omega)) d_Mc_perform_101 rfl rfl
set_option maxHeartbeats 4000000 in
set_option maxRecDepth 100000 in
theorem c_Mc_perform1 {l : Launch} {z : Zt} {a u w : Nat → Nat} {P : Pm} {F : Int32} {T : Tk} {N : Nm} {C D : Co} {M : Mc} (h : Nat) (hlt : l.stackTraces = false) {f t : Nat} (hf : f < 2 ^ 31) (hof : ∀ f, f < 11 → M.2.1 f < 11) (hd : M.2.2.2.2.2.1 < 11) (ht : M.2.2.2.2.1 ≤ 21) (hs : M.2.2.2.2.2.2.2.2.2.2.1 ≤ 400) (hwr : M.2.2.2.2.2.2.2.2.1 ≤ 32) (hde : M.2.2.2.2.2.2.2.2.2.2.2 ≤ 10) : XC l (Gz z) (h + 3) y_Mc_perform b_Mc_perform 4 none [.ref (a 13), .int (nI 1), .int (nI f), .int (nI t)] (cw z a u w P F T N C D M) (.inl none) (cw z a u w P F T N C D (mc_perform D M 1 f t).2) := by
  refine XC.ofV (by decide +kernel) rfl ?_
  intro p e s m below meth c X hnm
  refine V.lvs (lv' := [(0, .ref (a 13)), (1, .int (nI 1)), (2, .int (nI f)), (3, .int (nI t))]) rfl ?_
  refine V.iload_n X d_Mc_perform_0 rfl ?_
  refine V.tableIn (off := 106) (tgt := 107) X d_Mc_perform_1 (by decide +kernel) (by decide +kernel) (by decide +kernel) (by decide) ?_
  refine V.aload_n X d_Mc_perform_107 rfl ?_
  refine V.iload_n X d_Mc_perform_108 rfl ?_
  refine V.callV0 X (c_Mc_push (h + 2) (by omega)) Y_Mc_push k_Mc_89 13 rfl rfl rfl rfl rfl (Rok.lt (by omega)) d_Mc_perform_109 ?_
  refine V.goto (tgt := 282) X d_Mc_perform_112 (by decide) ?_
  exact V.vret X d_Mc_perform_282 rfl rfl
set_option maxHeartbeats 4000000 in
set_option maxRecDepth 100000 in
theorem c_Mc_perform2 {l : Launch} {z : Zt} {a u w : Nat → Nat} {P : Pm} {F : Int32} {T : Tk} {N : Nm} {C D : Co} {M : Mc} (h : Nat) (hlt : l.stackTraces = false) {f t : Nat} (hf : f < 2 ^ 31) (hof : ∀ f, f < 11 → M.2.1 f < 11) (hd : M.2.2.2.2.2.1 < 11) (ht : M.2.2.2.2.1 ≤ 21) (hs : M.2.2.2.2.2.2.2.2.2.2.1 ≤ 400) (hwr : M.2.2.2.2.2.2.2.2.1 ≤ 32) (hde : M.2.2.2.2.2.2.2.2.2.2.2 ≤ 10) : XC l (Gz z) (h + 3) y_Mc_perform b_Mc_perform 4 none [.ref (a 13), .int (nI 2), .int (nI f), .int (nI t)] (cw z a u w P F T N C D M) (.inl none) (cw z a u w P F T N C D (mc_perform D M 2 f t).2) := by
  refine XC.ofV (by decide +kernel) rfl ?_
  intro p e s m below meth c X hnm
  refine V.lvs (lv' := [(0, .ref (a 13)), (1, .int (nI 2)), (2, .int (nI f)), (3, .int (nI t))]) rfl ?_
  refine V.iload_n X d_Mc_perform_0 rfl ?_
  refine V.tableIn (off := 114) (tgt := 115) X d_Mc_perform_1 (by decide +kernel) (by decide +kernel) (by decide +kernel) (by decide) ?_
  refine V.aload_n X d_Mc_perform_115 rfl ?_
  refine V.aload_n X d_Mc_perform_116 rfl ?_
  refine V.aload_n X d_Mc_perform_117 rfl ?_
  refine V.iload_n X d_Mc_perform_118 rfl ?_
  refine V.iload_n X d_Mc_perform_119 rfl ?_
  refine V.callV1 X (c_Mc_address (h + 1) hf hof hd) Y_Mc_address k_Mc_93 13 rfl rfl rfl rfl rfl (Rok.lt (by omega)) d_Mc_perform_120 ?_
  refine V.callV1 X (c_Mc_load (h + 2)) Y_Mc_load k_Mc_97 13 rfl rfl rfl rfl rfl (Rok.lt (by omega)) d_Mc_perform_123 ?_
  refine V.callV0 X (c_Mc_push (h + 2) (by omega)) Y_Mc_push k_Mc_89 13 rfl rfl rfl rfl rfl (Rok.lt (by omega)) d_Mc_perform_126 ?_
  refine V.goto (tgt := 282) X d_Mc_perform_129 (by decide) ?_
  exact V.vret X d_Mc_perform_282 rfl rfl
set_option maxHeartbeats 4000000 in
set_option maxRecDepth 100000 in
theorem c_Mc_perform3 {l : Launch} {z : Zt} {a u w : Nat → Nat} {P : Pm} {F : Int32} {T : Tk} {N : Nm} {C D : Co} {M : Mc} (h : Nat) (hlt : l.stackTraces = false) {f t : Nat} (hf : f < 2 ^ 31) (hof : ∀ f, f < 11 → M.2.1 f < 11) (hd : M.2.2.2.2.2.1 < 11) (ht : M.2.2.2.2.1 ≤ 21) (hs : M.2.2.2.2.2.2.2.2.2.2.1 ≤ 400) (hwr : M.2.2.2.2.2.2.2.2.1 ≤ 32) (hde : M.2.2.2.2.2.2.2.2.2.2.2 ≤ 10) : XC l (Gz z) (h + 3) y_Mc_perform b_Mc_perform 4 none [.ref (a 13), .int (nI 3), .int (nI f), .int (nI t)] (cw z a u w P F T N C D M) (.inl none) (cw z a u w P F T N C D (mc_perform D M 3 f t).2) := by
  refine XC.ofV (by decide +kernel) rfl ?_
  intro p e s m below meth c X hnm
  refine V.lvs (lv' := [(0, .ref (a 13)), (1, .int (nI 3)), (2, .int (nI f)), (3, .int (nI t))]) rfl ?_
  refine V.iload_n X d_Mc_perform_0 rfl ?_
  refine V.tableIn (off := 131) (tgt := 132) X d_Mc_perform_1 (by decide +kernel) (by decide +kernel) (by decide +kernel) (by decide) ?_
  refine V.aload_n X d_Mc_perform_132 rfl ?_
  refine V.aload_n X d_Mc_perform_133 rfl ?_
  refine V.aload_n X d_Mc_perform_134 rfl ?_
  refine V.aload_n X d_Mc_perform_135 rfl ?_
  refine V.iload_n X d_Mc_perform_136 rfl ?_
  refine V.iload_n X d_Mc_perform_137 rfl ?_
  refine V.callV1 X (c_Mc_address (h + 1) hf hof hd) Y_Mc_address k_Mc_93 13 rfl rfl rfl rfl rfl (Rok.lt (by omega)) d_Mc_perform_138 ?_
  refine V.callV1 X (c_Mc_load (h + 2)) Y_Mc_load k_Mc_97 13 rfl rfl rfl rfl rfl (Rok.lt (by omega)) d_Mc_perform_141 ?_
  refine V.callV1 X (c_Mc_load (h + 2)) Y_Mc_load k_Mc_97 13 rfl rfl rfl rfl rfl (Rok.lt (by omega)) d_Mc_perform_144 ?_
  refine V.callV0 X (c_Mc_push (h + 2) (by omega)) Y_Mc_push k_Mc_89 13 rfl rfl rfl rfl rfl (Rok.lt (by omega)) d_Mc_perform_147 ?_
  refine V.goto (tgt := 282) X d_Mc_perform_150 (by decide) ?_
  exact V.vret X d_Mc_perform_282 rfl rfl
set_option maxHeartbeats 4000000 in
set_option maxRecDepth 100000 in
theorem c_Mc_perform4 {l : Launch} {z : Zt} {a u w : Nat → Nat} {P : Pm} {F : Int32} {T : Tk} {N : Nm} {C D : Co} {M : Mc} (h : Nat) (hlt : l.stackTraces = false) {f t : Nat} (hf : f < 2 ^ 31) (hof : ∀ f, f < 11 → M.2.1 f < 11) (hd : M.2.2.2.2.2.1 < 11) (ht : M.2.2.2.2.1 ≤ 21) (hs : M.2.2.2.2.2.2.2.2.2.2.1 ≤ 400) (hwr : M.2.2.2.2.2.2.2.2.1 ≤ 32) (hde : M.2.2.2.2.2.2.2.2.2.2.2 ≤ 10) : XC l (Gz z) (h + 3) y_Mc_perform b_Mc_perform 4 none [.ref (a 13), .int (nI 4), .int (nI f), .int (nI t)] (cw z a u w P F T N C D M) (.inl none) (cw z a u w P F T N C D (mc_perform D M 4 f t).2) := by
  refine XC.ofV (by decide +kernel) rfl ?_
  intro p e s m below meth c X hnm
  refine V.lvs (lv' := [(0, .ref (a 13)), (1, .int (nI 4)), (2, .int (nI f)), (3, .int (nI t))]) rfl ?_
  refine V.iload_n X d_Mc_perform_0 rfl ?_
  refine V.tableIn (off := 152) (tgt := 153) X d_Mc_perform_1 (by decide +kernel) (by decide +kernel) (by decide +kernel) (by decide) ?_
  refine V.aload_n X d_Mc_perform_153 rfl ?_
  refine V.aload_n X d_Mc_perform_154 rfl ?_
  refine V.iload_n X d_Mc_perform_155 rfl ?_
  refine V.iload_n X d_Mc_perform_156 rfl ?_
  refine V.callV1 X (c_Mc_address (h + 1) hf hof hd) Y_Mc_address k_Mc_93 13 rfl rfl rfl rfl rfl (Rok.lt (by omega)) d_Mc_perform_157 ?_
  refine V.callV0 X (c_Mc_push (h + 2) (by omega)) Y_Mc_push k_Mc_89 13 rfl rfl rfl rfl rfl (Rok.lt (by omega)) d_Mc_perform_160 ?_
  refine V.goto (tgt := 282) X d_Mc_perform_163 (by decide) ?_
  exact V.vret X d_Mc_perform_282 rfl rfl
set_option maxHeartbeats 4000000 in
set_option maxRecDepth 100000 in
theorem c_Mc_perform5 {l : Launch} {z : Zt} {a u w : Nat → Nat} {P : Pm} {F : Int32} {T : Tk} {N : Nm} {C D : Co} {M : Mc} (h : Nat) (hlt : l.stackTraces = false) {f t : Nat} (hf : f < 2 ^ 31) (hof : ∀ f, f < 11 → M.2.1 f < 11) (hd : M.2.2.2.2.2.1 < 11) (ht : M.2.2.2.2.1 ≤ 21) (hs : M.2.2.2.2.2.2.2.2.2.2.1 ≤ 400) (hwr : M.2.2.2.2.2.2.2.2.1 ≤ 32) (hde : M.2.2.2.2.2.2.2.2.2.2.2 ≤ 10) : XC l (Gz z) (h + 3) y_Mc_perform b_Mc_perform 4 none [.ref (a 13), .int (nI 5), .int (nI f), .int (nI t)] (cw z a u w P F T N C D M) (.inl none) (cw z a u w P F T N C D (mc_perform D M 5 f t).2) := by
  refine XC.ofV (by decide +kernel) rfl ?_
  intro p e s m below meth c X hnm
  refine V.lvs (lv' := [(0, .ref (a 13)), (1, .int (nI 5)), (2, .int (nI f)), (3, .int (nI t))]) rfl ?_
  refine V.iload_n X d_Mc_perform_0 rfl ?_
  refine V.tableIn (off := 165) (tgt := 166) X d_Mc_perform_1 (by decide +kernel) (by decide +kernel) (by decide +kernel) (by decide) ?_
  refine V.aload_n X d_Mc_perform_166 rfl ?_
  refine V.aload_n X d_Mc_perform_167 rfl ?_
  refine V.iload_n X d_Mc_perform_168 rfl ?_
  refine V.iload_n X d_Mc_perform_169 rfl ?_
  refine V.callV1 X (c_Mc_address (h + 1) hf hof hd) Y_Mc_address k_Mc_93 13 rfl rfl rfl rfl rfl (Rok.lt (by omega)) d_Mc_perform_170 ?_
  refine V.aload_n X d_Mc_perform_173 rfl ?_
  refine V.callV1 X (c_Mc_pop (h + 2) ht) Y_Mc_pop k_Mc_101 13 rfl rfl rfl rfl rfl (Rok.lt (by omega)) d_Mc_perform_174 ?_
  refine V.callV0 X (c_Mc_store (h + 2)) Y_Mc_store k_Mc_82 13 rfl rfl rfl rfl rfl (Rok.lt (by omega)) d_Mc_perform_177 ?_
  refine V.goto (tgt := 282) X d_Mc_perform_180 (by decide) ?_
  exact V.vret X d_Mc_perform_282 rfl rfl
set_option maxHeartbeats 4000000 in
set_option maxRecDepth 100000 in
theorem c_Mc_perform6 {l : Launch} {z : Zt} {a u w : Nat → Nat} {P : Pm} {F : Int32} {T : Tk} {N : Nm} {C D : Co} {M : Mc} (h : Nat) (hlt : l.stackTraces = false) {f t : Nat} (hf : f < 2 ^ 31) (hof : ∀ f, f < 11 → M.2.1 f < 11) (hd : M.2.2.2.2.2.1 < 11) (ht : M.2.2.2.2.1 ≤ 21) (hs : M.2.2.2.2.2.2.2.2.2.2.1 ≤ 400) (hwr : M.2.2.2.2.2.2.2.2.1 ≤ 32) (hde : M.2.2.2.2.2.2.2.2.2.2.2 ≤ 10) : XC l (Gz z) (h + 3) y_Mc_perform b_Mc_perform 4 none [.ref (a 13), .int (nI 6), .int (nI f), .int (nI t)] (cw z a u w P F T N C D M) (.inl none) (cw z a u w P F T N C D (mc_perform D M 6 f t).2) := by
  refine XC.ofV (by decide +kernel) rfl ?_
  intro p e s m below meth c X hnm
  refine V.lvs (lv' := [(0, .ref (a 13)), (1, .int (nI 6)), (2, .int (nI f)), (3, .int (nI t))]) rfl ?_
  refine V.iload_n X d_Mc_perform_0 rfl ?_
  refine V.tableIn (off := 182) (tgt := 183) X d_Mc_perform_1 (by decide +kernel) (by decide +kernel) (by decide +kernel) (by decide) ?_
  refine V.aload_n X d_Mc_perform_183 rfl ?_
  refine V.aload_n X d_Mc_perform_184 rfl ?_
  refine V.aload_n X d_Mc_perform_185 rfl ?_
  refine V.iload_n X d_Mc_perform_186 rfl ?_
  refine V.iload_n X d_Mc_perform_187 rfl ?_
  refine V.callV1 X (c_Mc_address (h + 1) hf hof hd) Y_Mc_address k_Mc_93 13 rfl rfl rfl rfl rfl (Rok.lt (by omega)) d_Mc_perform_188 ?_
  refine V.callV1 X (c_Mc_load (h + 2)) Y_Mc_load k_Mc_97 13 rfl rfl rfl rfl rfl (Rok.lt (by omega)) d_Mc_perform_191 ?_
  refine V.aload_n X d_Mc_perform_194 rfl ?_
  refine V.callV1 X (c_Mc_pop (h + 2) ht) Y_Mc_pop k_Mc_101 13 rfl rfl rfl rfl rfl (Rok.lt (by omega)) d_Mc_perform_195 ?_
  refine V.callV0 X (c_Mc_store (h + 2)) Y_Mc_store k_Mc_82 13 rfl rfl rfl rfl rfl (Rok.lt (by omega)) d_Mc_perform_198 ?_
  refine V.goto (tgt := 282) X d_Mc_perform_201 (by decide) ?_
  exact V.vret X d_Mc_perform_282 rfl rfl
set_option maxHeartbeats 4000000 in
set_option maxRecDepth 100000 in
theorem c_Mc_perform7 {l : Launch} {z : Zt} {a u w : Nat → Nat} {P : Pm} {F : Int32} {T : Tk} {N : Nm} {C D : Co} {M : Mc} (h : Nat) (hlt : l.stackTraces = false) {f t : Nat} (hf : f < 2 ^ 31) (hof : ∀ f, f < 11 → M.2.1 f < 11) (hd : M.2.2.2.2.2.1 < 11) (ht : M.2.2.2.2.1 ≤ 21) (hs : M.2.2.2.2.2.2.2.2.2.2.1 ≤ 400) (hwr : M.2.2.2.2.2.2.2.2.1 ≤ 32) (hde : M.2.2.2.2.2.2.2.2.2.2.2 ≤ 10) : XC l (Gz z) (h + 3) y_Mc_perform b_Mc_perform 4 none [.ref (a 13), .int (nI 7), .int (nI f), .int (nI t)] (cw z a u w P F T N C D M) (.inl none) (cw z a u w P F T N C D (mc_perform D M 7 f t).2) := by
  refine XC.ofV (by decide +kernel) rfl ?_
  intro p e s m below meth c X hnm
  refine V.lvs (lv' := [(0, .ref (a 13)), (1, .int (nI 7)), (2, .int (nI f)), (3, .int (nI t))]) rfl ?_
  refine V.iload_n X d_Mc_perform_0 rfl ?_
  refine V.tableIn (off := 203) (tgt := 204) X d_Mc_perform_1 (by decide +kernel) (by decide +kernel) (by decide +kernel) (by decide) ?_
  refine V.aload_n X d_Mc_perform_204 rfl ?_
  refine V.aload_n X d_Mc_perform_205 rfl ?_
  refine V.callV1 X (c_Mc_pop (h + 2) ht) Y_Mc_pop k_Mc_101 13 rfl rfl rfl rfl rfl (Rok.lt (by omega)) d_Mc_perform_206 ?_
  have ht2 := mc_pop_top ht
  refine V.ineg X d_Mc_perform_209 rfl ?_
  refine V.callV0 X (c_Mc_push (h + 2) (by omega)) Y_Mc_push k_Mc_89 13 rfl rfl rfl rfl rfl (Rok.lt (by omega)) d_Mc_perform_210 ?_
  refine V.goto (tgt := 282) X d_Mc_perform_213 (by decide) ?_
  exact V.vret X d_Mc_perform_282 rfl rfl
set_option maxHeartbeats 4000000 in
set_option maxRecDepth 100000 in
theorem c_Mc_perform8 {l : Launch} {z : Zt} {a u w : Nat → Nat} {P : Pm} {F : Int32} {T : Tk} {N : Nm} {C D : Co} {M : Mc} (h : Nat) (hlt : l.stackTraces = false) {f t : Nat} (hf : f < 2 ^ 31) (hof : ∀ f, f < 11 → M.2.1 f < 11) (hd : M.2.2.2.2.2.1 < 11) (ht : M.2.2.2.2.1 ≤ 21) (hs : M.2.2.2.2.2.2.2.2.2.2.1 ≤ 400) (hwr : M.2.2.2.2.2.2.2.2.1 ≤ 32) (hde : M.2.2.2.2.2.2.2.2.2.2.2 ≤ 10) : XC l (Gz z) (h + 3) y_Mc_perform b_Mc_perform 4 none [.ref (a 13), .int (nI 8), .int (nI f), .int (nI t)] (cw z a u w P F T N C D M) (.inl none) (cw z a u w P F T N C D (mc_perform D M 8 f t).2) := by
  refine XC.ofV (by decide +kernel) rfl ?_
  intro p e s m below meth c X hnm
  refine V.lvs (lv' := [(0, .ref (a 13)), (1, .int (nI 8)), (2, .int (nI f)), (3, .int (nI t))]) rfl ?_
  refine V.iload_n X d_Mc_perform_0 rfl ?_
  refine V.tableIn (off := 276) (tgt := 277) X d_Mc_perform_1 (by decide +kernel) (by decide +kernel) (by decide +kernel) (by decide) ?_
  refine V.aload_n X d_Mc_perform_277 rfl ?_
  refine V.iload_n X d_Mc_perform_278 rfl ?_
  refine V.callV0 X (c_Mc_combine8 h ht) Y_Mc_combine k_Mc_117 13 rfl rfl rfl rfl rfl (Rok.lt (by omega)) d_Mc_perform_279 ?_
  exact V.vret X d_Mc_perform_282 rfl rfl
set_option maxHeartbeats 4000000 in
set_option maxRecDepth 100000 in
theorem c_Mc_perform9 {l : Launch} {z : Zt} {a u w : Nat → Nat} {P : Pm} {F : Int32} {T : Tk} {N : Nm} {C D : Co} {M : Mc} (h : Nat) (hlt : l.stackTraces = false) {f t : Nat} (hf : f < 2 ^ 31) (hof : ∀ f, f < 11 → M.2.1 f < 11) (hd : M.2.2.2.2.2.1 < 11) (ht : M.2.2.2.2.1 ≤ 21) (hs : M.2.2.2.2.2.2.2.2.2.2.1 ≤ 400) (hwr : M.2.2.2.2.2.2.2.2.1 ≤ 32) (hde : M.2.2.2.2.2.2.2.2.2.2.2 ≤ 10) : XC l (Gz z) (h + 3) y_Mc_perform b_Mc_perform 4 none [.ref (a 13), .int (nI 9), .int (nI f), .int (nI t)] (cw z a u w P F T N C D M) (.inl none) (cw z a u w P F T N C D (mc_perform D M 9 f t).2) := by
  refine XC.ofV (by decide +kernel) rfl ?_
  intro p e s m below meth c X hnm
  refine V.lvs (lv' := [(0, .ref (a 13)), (1, .int (nI 9)), (2, .int (nI f)), (3, .int (nI t))]) rfl ?_
  refine V.iload_n X d_Mc_perform_0 rfl ?_
  refine V.tableIn (off := 276) (tgt := 277) X d_Mc_perform_1 (by decide +kernel) (by decide +kernel) (by decide +kernel) (by decide) ?_
  refine V.aload_n X d_Mc_perform_277 rfl ?_
  refine V.iload_n X d_Mc_perform_278 rfl ?_
  refine V.callV0 X (c_Mc_combine9 h ht) Y_Mc_combine k_Mc_117 13 rfl rfl rfl rfl rfl (Rok.lt (by omega)) d_Mc_perform_279 ?_
  exact V.vret X d_Mc_perform_282 rfl rfl
set_option maxHeartbeats 4000000 in
set_option maxRecDepth 100000 in
theorem c_Mc_perform10 {l : Launch} {z : Zt} {a u w : Nat → Nat} {P : Pm} {F : Int32} {T : Tk} {N : Nm} {C D : Co} {M : Mc} (h : Nat) (hlt : l.stackTraces = false) {f t : Nat} (hf : f < 2 ^ 31) (hof : ∀ f, f < 11 → M.2.1 f < 11) (hd : M.2.2.2.2.2.1 < 11) (ht : M.2.2.2.2.1 ≤ 21) (hs : M.2.2.2.2.2.2.2.2.2.2.1 ≤ 400) (hwr : M.2.2.2.2.2.2.2.2.1 ≤ 32) (hde : M.2.2.2.2.2.2.2.2.2.2.2 ≤ 10) : XC l (Gz z) (h + 3) y_Mc_perform b_Mc_perform 4 none [.ref (a 13), .int (nI 10), .int (nI f), .int (nI t)] (cw z a u w P F T N C D M) (.inl none) (cw z a u w P F T N C D (mc_perform D M 10 f t).2) := by
  refine XC.ofV (by decide +kernel) rfl ?_
  intro p e s m below meth c X hnm
  refine V.lvs (lv' := [(0, .ref (a 13)), (1, .int (nI 10)), (2, .int (nI f)), (3, .int (nI t))]) rfl ?_
  refine V.iload_n X d_Mc_perform_0 rfl ?_
  refine V.tableIn (off := 276) (tgt := 277) X d_Mc_perform_1 (by decide +kernel) (by decide +kernel) (by decide +kernel) (by decide) ?_
  refine V.aload_n X d_Mc_perform_277 rfl ?_
  refine V.iload_n X d_Mc_perform_278 rfl ?_
  refine V.callV0 X (c_Mc_combine10 h ht) Y_Mc_combine k_Mc_117 13 rfl rfl rfl rfl rfl (Rok.lt (by omega)) d_Mc_perform_279 ?_
  exact V.vret X d_Mc_perform_282 rfl rfl
set_option maxHeartbeats 4000000 in
set_option maxRecDepth 100000 in
theorem c_Mc_perform11 {l : Launch} {z : Zt} {a u w : Nat → Nat} {P : Pm} {F : Int32} {T : Tk} {N : Nm} {C D : Co} {M : Mc} (h : Nat) (hlt : l.stackTraces = false) {f t : Nat} (hf : f < 2 ^ 31) (hof : ∀ f, f < 11 → M.2.1 f < 11) (hd : M.2.2.2.2.2.1 < 11) (ht : M.2.2.2.2.1 ≤ 21) (hs : M.2.2.2.2.2.2.2.2.2.2.1 ≤ 400) (hwr : M.2.2.2.2.2.2.2.2.1 ≤ 32) (hde : M.2.2.2.2.2.2.2.2.2.2.2 ≤ 10) (hj : ¬ (mc_two M).2.1 = 0) : XC l (Gz z) (h + 3) y_Mc_perform b_Mc_perform 4 none [.ref (a 13), .int (nI 11), .int (nI f), .int (nI t)] (cw z a u w P F T N C D M) (.inl none) (cw z a u w P F T N C D (mc_perform D M 11 f t).2) := by
  refine XC.ofV (by decide +kernel) rfl ?_
  intro p e s m below meth c X hnm
  refine V.lvs (lv' := [(0, .ref (a 13)), (1, .int (nI 11)), (2, .int (nI f)), (3, .int (nI t))]) rfl ?_
  rw [show mc_perform D M 11 f t = (none, mc_comb M 11) from if_neg hj]
  refine V.iload_n X d_Mc_perform_0 rfl ?_
  refine V.tableIn (off := 276) (tgt := 277) X d_Mc_perform_1 (by decide +kernel) (by decide +kernel) (by decide +kernel) (by decide) ?_
  refine V.aload_n X d_Mc_perform_277 rfl ?_
  refine V.iload_n X d_Mc_perform_278 rfl ?_
  refine V.callV0 X (c_Mc_combine11 h ht hj) Y_Mc_combine k_Mc_117 13 rfl rfl rfl rfl rfl (Rok.lt (by omega)) d_Mc_perform_279 ?_
  exact V.vret X d_Mc_perform_282 rfl rfl
set_option maxHeartbeats 4000000 in
set_option maxRecDepth 100000 in
theorem c_Mc_perform11X {l : Launch} {z : Zt} {a u w : Nat → Nat} {P : Pm} {F : Int32} {T : Tk} {N : Nm} {C D : Co} {M : Mc} (h : Nat) (hlt : l.stackTraces = false) {f t : Nat} (hf : f < 2 ^ 31) (hof : ∀ f, f < 11 → M.2.1 f < 11) (hd : M.2.2.2.2.2.1 < 11) (ht : M.2.2.2.2.1 ≤ 21) (hs : M.2.2.2.2.2.2.2.2.2.2.1 ≤ 400) (hwr : M.2.2.2.2.2.2.2.2.1 ≤ 32) (hde : M.2.2.2.2.2.2.2.2.2.2.2 ≤ 10) (hj : (mc_two M).2.1 = 0) : XC l (Gz z) (h + 3) y_Mc_perform b_Mc_perform 4 none [.ref (a 13), .int (nI 11), .int (nI f), .int (nI t)] (cw z a u w P F T N C D M) (.inr ARE) (cw z a u w P F T N C D (mc_perform D M 11 f t).2) := by
  refine XC.ofV (by decide +kernel) rfl ?_
  intro p e s m below meth c X hnm
  refine V.lvs (lv' := [(0, .ref (a 13)), (1, .int (nI 11)), (2, .int (nI f)), (3, .int (nI t))]) rfl ?_
  rw [show mc_perform D M 11 f t = (some ARE, (mc_two M).2.2) from if_pos hj]
  refine V.iload_n X d_Mc_perform_0 rfl ?_
  refine V.tableIn (off := 276) (tgt := 277) X d_Mc_perform_1 (by decide +kernel) (by decide +kernel) (by decide +kernel) (by decide) ?_
  refine V.aload_n X d_Mc_perform_277 rfl ?_
  refine V.iload_n X d_Mc_perform_278 rfl ?_
  exact V.callVX X (c_Mc_combine11X h hlt ht hj) Y_Mc_combine k_Mc_117 13 rfl rfl rfl rfl rfl (Rok.lt (by omega)) d_Mc_perform_279 rfl rfl
set_option maxHeartbeats 4000000 in
set_option maxRecDepth 100000 in
theorem c_Mc_perform12 {l : Launch} {z : Zt} {a u w : Nat → Nat} {P : Pm} {F : Int32} {T : Tk} {N : Nm} {C D : Co} {M : Mc} (h : Nat) (hlt : l.stackTraces = false) {f t : Nat} (hf : f < 2 ^ 31) (hof : ∀ f, f < 11 → M.2.1 f < 11) (hd : M.2.2.2.2.2.1 < 11) (ht : M.2.2.2.2.1 ≤ 21) (hs : M.2.2.2.2.2.2.2.2.2.2.1 ≤ 400) (hwr : M.2.2.2.2.2.2.2.2.1 ≤ 32) (hde : M.2.2.2.2.2.2.2.2.2.2.2 ≤ 10) (hj : ¬ (mc_two M).2.1 = 0) : XC l (Gz z) (h + 3) y_Mc_perform b_Mc_perform 4 none [.ref (a 13), .int (nI 12), .int (nI f), .int (nI t)] (cw z a u w P F T N C D M) (.inl none) (cw z a u w P F T N C D (mc_perform D M 12 f t).2) := by
  refine XC.ofV (by decide +kernel) rfl ?_
  intro p e s m below meth c X hnm
  refine V.lvs (lv' := [(0, .ref (a 13)), (1, .int (nI 12)), (2, .int (nI f)), (3, .int (nI t))]) rfl ?_
  rw [show mc_perform D M 12 f t = (none, mc_comb M 12) from if_neg hj]
  refine V.iload_n X d_Mc_perform_0 rfl ?_
  refine V.tableIn (off := 276) (tgt := 277) X d_Mc_perform_1 (by decide +kernel) (by decide +kernel) (by decide +kernel) (by decide) ?_
  refine V.aload_n X d_Mc_perform_277 rfl ?_
  refine V.iload_n X d_Mc_perform_278 rfl ?_
  refine V.callV0 X (c_Mc_combine12 h ht hj) Y_Mc_combine k_Mc_117 13 rfl rfl rfl rfl rfl (Rok.lt (by omega)) d_Mc_perform_279 ?_
  exact V.vret X d_Mc_perform_282 rfl rfl
set_option maxHeartbeats 4000000 in
set_option maxRecDepth 100000 in
theorem c_Mc_perform12X {l : Launch} {z : Zt} {a u w : Nat → Nat} {P : Pm} {F : Int32} {T : Tk} {N : Nm} {C D : Co} {M : Mc} (h : Nat) (hlt : l.stackTraces = false) {f t : Nat} (hf : f < 2 ^ 31) (hof : ∀ f, f < 11 → M.2.1 f < 11) (hd : M.2.2.2.2.2.1 < 11) (ht : M.2.2.2.2.1 ≤ 21) (hs : M.2.2.2.2.2.2.2.2.2.2.1 ≤ 400) (hwr : M.2.2.2.2.2.2.2.2.1 ≤ 32) (hde : M.2.2.2.2.2.2.2.2.2.2.2 ≤ 10) (hj : (mc_two M).2.1 = 0) : XC l (Gz z) (h + 3) y_Mc_perform b_Mc_perform 4 none [.ref (a 13), .int (nI 12), .int (nI f), .int (nI t)] (cw z a u w P F T N C D M) (.inr ARE) (cw z a u w P F T N C D (mc_perform D M 12 f t).2) := by
  refine XC.ofV (by decide +kernel) rfl ?_
  intro p e s m below meth c X hnm
  refine V.lvs (lv' := [(0, .ref (a 13)), (1, .int (nI 12)), (2, .int (nI f)), (3, .int (nI t))]) rfl ?_
  rw [show mc_perform D M 12 f t = (some ARE, (mc_two M).2.2) from if_pos hj]
  refine V.iload_n X d_Mc_perform_0 rfl ?_
  refine V.tableIn (off := 276) (tgt := 277) X d_Mc_perform_1 (by decide +kernel) (by decide +kernel) (by decide +kernel) (by decide) ?_
  refine V.aload_n X d_Mc_perform_277 rfl ?_
  refine V.iload_n X d_Mc_perform_278 rfl ?_
  exact V.callVX X (c_Mc_combine12X h hlt ht hj) Y_Mc_combine k_Mc_117 13 rfl rfl rfl rfl rfl (Rok.lt (by omega)) d_Mc_perform_279 rfl rfl
set_option maxHeartbeats 4000000 in
set_option maxRecDepth 100000 in
theorem c_Mc_perform13 {l : Launch} {z : Zt} {a u w : Nat → Nat} {P : Pm} {F : Int32} {T : Tk} {N : Nm} {C D : Co} {M : Mc} (h : Nat) (hlt : l.stackTraces = false) {f t : Nat} (hf : f < 2 ^ 31) (hof : ∀ f, f < 11 → M.2.1 f < 11) (hd : M.2.2.2.2.2.1 < 11) (ht : M.2.2.2.2.1 ≤ 21) (hs : M.2.2.2.2.2.2.2.2.2.2.1 ≤ 400) (hwr : M.2.2.2.2.2.2.2.2.1 ≤ 32) (hde : M.2.2.2.2.2.2.2.2.2.2.2 ≤ 10) : XC l (Gz z) (h + 3) y_Mc_perform b_Mc_perform 4 none [.ref (a 13), .int (nI 13), .int (nI f), .int (nI t)] (cw z a u w P F T N C D M) (.inl none) (cw z a u w P F T N C D (mc_perform D M 13 f t).2) := by
  refine XC.ofV (by decide +kernel) rfl ?_
  intro p e s m below meth c X hnm
  refine V.lvs (lv' := [(0, .ref (a 13)), (1, .int (nI 13)), (2, .int (nI f)), (3, .int (nI t))]) rfl ?_
  refine V.iload_n X d_Mc_perform_0 rfl ?_
  refine V.tableIn (off := 276) (tgt := 277) X d_Mc_perform_1 (by decide +kernel) (by decide +kernel) (by decide +kernel) (by decide) ?_
  refine V.aload_n X d_Mc_perform_277 rfl ?_
  refine V.iload_n X d_Mc_perform_278 rfl ?_
  refine V.callV0 X (c_Mc_combine13 h ht) Y_Mc_combine k_Mc_117 13 rfl rfl rfl rfl rfl (Rok.lt (by omega)) d_Mc_perform_279 ?_
  exact V.vret X d_Mc_perform_282 rfl rfl
set_option maxHeartbeats 4000000 in
set_option maxRecDepth 100000 in
theorem c_Mc_perform14 {l : Launch} {z : Zt} {a u w : Nat → Nat} {P : Pm} {F : Int32} {T : Tk} {N : Nm} {C D : Co} {M : Mc} (h : Nat) (hlt : l.stackTraces = false) {f t : Nat} (hf : f < 2 ^ 31) (hof : ∀ f, f < 11 → M.2.1 f < 11) (hd : M.2.2.2.2.2.1 < 11) (ht : M.2.2.2.2.1 ≤ 21) (hs : M.2.2.2.2.2.2.2.2.2.2.1 ≤ 400) (hwr : M.2.2.2.2.2.2.2.2.1 ≤ 32) (hde : M.2.2.2.2.2.2.2.2.2.2.2 ≤ 10) : XC l (Gz z) (h + 3) y_Mc_perform b_Mc_perform 4 none [.ref (a 13), .int (nI 14), .int (nI f), .int (nI t)] (cw z a u w P F T N C D M) (.inl none) (cw z a u w P F T N C D (mc_perform D M 14 f t).2) := by
  refine XC.ofV (by decide +kernel) rfl ?_
  intro p e s m below meth c X hnm
  refine V.lvs (lv' := [(0, .ref (a 13)), (1, .int (nI 14)), (2, .int (nI f)), (3, .int (nI t))]) rfl ?_
  refine V.iload_n X d_Mc_perform_0 rfl ?_
  refine V.tableIn (off := 276) (tgt := 277) X d_Mc_perform_1 (by decide +kernel) (by decide +kernel) (by decide +kernel) (by decide) ?_
  refine V.aload_n X d_Mc_perform_277 rfl ?_
  refine V.iload_n X d_Mc_perform_278 rfl ?_
  refine V.callV0 X (c_Mc_combine14 h ht) Y_Mc_combine k_Mc_117 13 rfl rfl rfl rfl rfl (Rok.lt (by omega)) d_Mc_perform_279 ?_
  exact V.vret X d_Mc_perform_282 rfl rfl
set_option maxHeartbeats 4000000 in
set_option maxRecDepth 100000 in
theorem c_Mc_perform15 {l : Launch} {z : Zt} {a u w : Nat → Nat} {P : Pm} {F : Int32} {T : Tk} {N : Nm} {C D : Co} {M : Mc} (h : Nat) (hlt : l.stackTraces = false) {f t : Nat} (hf : f < 2 ^ 31) (hof : ∀ f, f < 11 → M.2.1 f < 11) (hd : M.2.2.2.2.2.1 < 11) (ht : M.2.2.2.2.1 ≤ 21) (hs : M.2.2.2.2.2.2.2.2.2.2.1 ≤ 400) (hwr : M.2.2.2.2.2.2.2.2.1 ≤ 32) (hde : M.2.2.2.2.2.2.2.2.2.2.2 ≤ 10) : XC l (Gz z) (h + 3) y_Mc_perform b_Mc_perform 4 none [.ref (a 13), .int (nI 15), .int (nI f), .int (nI t)] (cw z a u w P F T N C D M) (.inl none) (cw z a u w P F T N C D (mc_perform D M 15 f t).2) := by
  refine XC.ofV (by decide +kernel) rfl ?_
  intro p e s m below meth c X hnm
  refine V.lvs (lv' := [(0, .ref (a 13)), (1, .int (nI 15)), (2, .int (nI f)), (3, .int (nI t))]) rfl ?_
  refine V.iload_n X d_Mc_perform_0 rfl ?_
  refine V.tableIn (off := 276) (tgt := 277) X d_Mc_perform_1 (by decide +kernel) (by decide +kernel) (by decide +kernel) (by decide) ?_
  refine V.aload_n X d_Mc_perform_277 rfl ?_
  refine V.iload_n X d_Mc_perform_278 rfl ?_
  refine V.callV0 X (c_Mc_combine15 h ht) Y_Mc_combine k_Mc_117 13 rfl rfl rfl rfl rfl (Rok.lt (by omega)) d_Mc_perform_279 ?_
  exact V.vret X d_Mc_perform_282 rfl rfl
set_option maxHeartbeats 4000000 in
set_option maxRecDepth 100000 in
theorem c_Mc_perform16 {l : Launch} {z : Zt} {a u w : Nat → Nat} {P : Pm} {F : Int32} {T : Tk} {N : Nm} {C D : Co} {M : Mc} (h : Nat) (hlt : l.stackTraces = false) {f t : Nat} (hf : f < 2 ^ 31) (hof : ∀ f, f < 11 → M.2.1 f < 11) (hd : M.2.2.2.2.2.1 < 11) (ht : M.2.2.2.2.1 ≤ 21) (hs : M.2.2.2.2.2.2.2.2.2.2.1 ≤ 400) (hwr : M.2.2.2.2.2.2.2.2.1 ≤ 32) (hde : M.2.2.2.2.2.2.2.2.2.2.2 ≤ 10) : XC l (Gz z) (h + 3) y_Mc_perform b_Mc_perform 4 none [.ref (a 13), .int (nI 16), .int (nI f), .int (nI t)] (cw z a u w P F T N C D M) (.inl none) (cw z a u w P F T N C D (mc_perform D M 16 f t).2) := by
  refine XC.ofV (by decide +kernel) rfl ?_
  intro p e s m below meth c X hnm
  refine V.lvs (lv' := [(0, .ref (a 13)), (1, .int (nI 16)), (2, .int (nI f)), (3, .int (nI t))]) rfl ?_
  refine V.iload_n X d_Mc_perform_0 rfl ?_
  refine V.tableIn (off := 215) (tgt := 216) X d_Mc_perform_1 (by decide +kernel) (by decide +kernel) (by decide +kernel) (by decide) ?_
  refine V.aload_n X d_Mc_perform_216 rfl ?_
  refine V.iload_n X d_Mc_perform_217 rfl ?_
  refine p_Mc_next X k_Mc_38 d_Mc_perform_218 ?_
  refine V.goto (tgt := 282) X d_Mc_perform_221 (by decide) ?_
  exact V.vret X d_Mc_perform_282 rfl rfl
set_option maxHeartbeats 4000000 in
set_option maxRecDepth 100000 in
theorem c_Mc_perform17 {l : Launch} {z : Zt} {a u w : Nat → Nat} {P : Pm} {F : Int32} {T : Tk} {N : Nm} {C D : Co} {M : Mc} (h : Nat) (hlt : l.stackTraces = false) {f t : Nat} (hf : f < 2 ^ 31) (hof : ∀ f, f < 11 → M.2.1 f < 11) (hd : M.2.2.2.2.2.1 < 11) (ht : M.2.2.2.2.1 ≤ 21) (hs : M.2.2.2.2.2.2.2.2.2.2.1 ≤ 400) (hwr : M.2.2.2.2.2.2.2.2.1 ≤ 32) (hde : M.2.2.2.2.2.2.2.2.2.2.2 ≤ 10) : XC l (Gz z) (h + 3) y_Mc_perform b_Mc_perform 4 none [.ref (a 13), .int (nI 17), .int (nI f), .int (nI t)] (cw z a u w P F T N C D M) (.inl none) (cw z a u w P F T N C D (mc_perform D M 17 f t).2) := by
  refine XC.ofV (by decide +kernel) rfl ?_
  intro p e s m below meth c X hnm
  refine V.lvs (lv' := [(0, .ref (a 13)), (1, .int (nI 17)), (2, .int (nI f)), (3, .int (nI t))]) rfl ?_
  refine V.iload_n X d_Mc_perform_0 rfl ?_
  refine V.tableIn (off := 223) (tgt := 224) X d_Mc_perform_1 (by decide +kernel) (by decide +kernel) (by decide +kernel) (by decide) ?_
  refine V.aload_n X d_Mc_perform_224 rfl ?_
  refine V.aload_n X d_Mc_perform_225 rfl ?_
  refine V.callV1 X (c_Mc_pop (h + 2) ht) Y_Mc_pop k_Mc_101 13 rfl rfl rfl rfl rfl (Rok.lt (by omega)) d_Mc_perform_226 ?_
  refine V.if_ne (tgt := 236) X d_Mc_perform_229 (by decide) (fun h229 => ?_) (fun h229 => ?_)
  · rw [show mc_perform D M 17 f t = (none, (mc_pop M).2) from congrArg _ (if_neg h229)]
    refine V.aload_n X d_Mc_perform_236 rfl ?_
    refine g_Mc_next X k_Mc_38 d_Mc_perform_237 ?_
    refine p_Mc_next X k_Mc_38 d_Mc_perform_240 ?_
    refine V.goto (tgt := 282) X d_Mc_perform_243 (by decide) ?_
    exact V.vret X d_Mc_perform_282 rfl rfl
  · rw [show mc_perform D M 17 f t = (none, ((mc_pop M).2.1, (mc_pop M).2.2.1, (mc_pop M).2.2.2.1, (mc_pop M).2.2.2.2.1, (mc_pop M).2.2.2.2.2.1, (mc_pop M).2.2.2.2.2.2.1, f, (mc_pop M).2.2.2.2.2.2.2.2.1, (mc_pop M).2.2.2.2.2.2.2.2.2.1, (mc_pop M).2.2.2.2.2.2.2.2.2.2.1, (mc_pop M).2.2.2.2.2.2.2.2.2.2.2.1, (mc_pop M).2.2.2.2.2.2.2.2.2.2.2.2)) from congrArg _ (if_pos h229)]
    refine V.iload_n X d_Mc_perform_232 rfl ?_
    refine V.goto (tgt := 240) X d_Mc_perform_233 (by decide) ?_
    refine p_Mc_next X k_Mc_38 d_Mc_perform_240 ?_
    refine V.goto (tgt := 282) X d_Mc_perform_243 (by decide) ?_
    exact V.vret X d_Mc_perform_282 rfl rfl
set_option maxHeartbeats 4000000 in
set_option maxRecDepth 100000 in
theorem c_Mc_perform18 {l : Launch} {z : Zt} {a u w : Nat → Nat} {P : Pm} {F : Int32} {T : Tk} {N : Nm} {C D : Co} {M : Mc} (h : Nat) (hlt : l.stackTraces = false) {f t : Nat} (hf : f < 2 ^ 31) (hof : ∀ f, f < 11 → M.2.1 f < 11) (hd : M.2.2.2.2.2.1 < 11) (ht : M.2.2.2.2.1 ≤ 21) (hs : M.2.2.2.2.2.2.2.2.2.2.1 ≤ 400) (hwr : M.2.2.2.2.2.2.2.2.1 ≤ 32) (hde : M.2.2.2.2.2.2.2.2.2.2.2 ≤ 10) (h6 : t < 6) (hpa : D.2.2.2.2.1 t ≤ 12) (h4 : M.2.2.2.2.2.1 ≠ 10) : XC l (Gz z) (h + 3) y_Mc_perform b_Mc_perform 4 none [.ref (a 13), .int (nI 18), .int (nI f), .int (nI t)] (cw z a u w P F T N C D M) (.inl none) (cw z a u w P F T N C D (mc_perform D M 18 f t).2) := by
  refine XC.ofV (by decide +kernel) rfl ?_
  intro p e s m below meth c X hnm
  refine V.lvs (lv' := [(0, .ref (a 13)), (1, .int (nI 18)), (2, .int (nI f)), (3, .int (nI t))]) rfl ?_
  rw [show mc_perform D M 18 f t = (none, mc_enter D M (mc_out M f M.2.2.2.2.2.1) t) from if_neg h4]
  refine V.iload_n X d_Mc_perform_0 rfl ?_
  refine V.tableIn (off := 245) (tgt := 246) X d_Mc_perform_1 (by decide +kernel) (by decide +kernel) (by decide +kernel) (by decide) ?_
  refine V.aload_n X d_Mc_perform_246 rfl ?_
  refine V.aload_n X d_Mc_perform_247 rfl ?_
  refine V.iload_n X d_Mc_perform_248 rfl ?_
  refine V.callV1 X (c_Mc_frameOutward (h + 2) hf hof hd) Y_Mc_frameOutward k_Mc_105 13 rfl rfl rfl rfl rfl (Rok.lt (by omega)) d_Mc_perform_249 ?_
  refine V.iload_n X d_Mc_perform_252 rfl ?_
  refine V.callV0 X (c_Mc_enter h h6 (by omega) ht hde hpa) Y_Mc_enter k_Mc_108 13 rfl rfl rfl rfl rfl (Rok.lt (by omega)) d_Mc_perform_253 ?_
  refine V.goto (tgt := 282) X d_Mc_perform_256 (by decide) ?_
  exact V.vret X d_Mc_perform_282 rfl rfl
set_option maxHeartbeats 4000000 in
set_option maxRecDepth 100000 in
theorem c_Mc_perform18X {l : Launch} {z : Zt} {a u w : Nat → Nat} {P : Pm} {F : Int32} {T : Tk} {N : Nm} {C D : Co} {M : Mc} (h : Nat) (hlt : l.stackTraces = false) {f t : Nat} (hf : f < 2 ^ 31) (hof : ∀ f, f < 11 → M.2.1 f < 11) (hd : M.2.2.2.2.2.1 < 11) (ht : M.2.2.2.2.1 ≤ 21) (hs : M.2.2.2.2.2.2.2.2.2.2.1 ≤ 400) (hwr : M.2.2.2.2.2.2.2.2.1 ≤ 32) (hde : M.2.2.2.2.2.2.2.2.2.2.2 ≤ 10) (h4 : M.2.2.2.2.2.1 = 10) : XC l (Gz z) (h + 3) y_Mc_perform b_Mc_perform 4 none [.ref (a 13), .int (nI 18), .int (nI f), .int (nI t)] (cw z a u w P F T N C D M) (.inr IOE) (cw z a u w P F T N C D (mc_perform D M 18 f t).2) := by
  refine XC.ofV (by decide +kernel) rfl ?_
  intro p e s m below meth c X hnm
  refine V.lvs (lv' := [(0, .ref (a 13)), (1, .int (nI 18)), (2, .int (nI f)), (3, .int (nI t))]) rfl ?_
  rw [show mc_perform D M 18 f t = (some IOE, M) from if_pos h4]
  refine V.iload_n X d_Mc_perform_0 rfl ?_
  refine V.tableIn (off := 245) (tgt := 246) X d_Mc_perform_1 (by decide +kernel) (by decide +kernel) (by decide +kernel) (by decide) ?_
  refine V.aload_n X d_Mc_perform_246 rfl ?_
  refine V.aload_n X d_Mc_perform_247 rfl ?_
  refine V.iload_n X d_Mc_perform_248 rfl ?_
  refine V.callV1 X (c_Mc_frameOutward (h + 2) hf hof hd) Y_Mc_frameOutward k_Mc_105 13 rfl rfl rfl rfl rfl (Rok.lt (by omega)) d_Mc_perform_249 ?_
  refine V.iload_n X d_Mc_perform_252 rfl ?_
  exact V.callVX X (c_Mc_enterX h hlt h4) Y_Mc_enter k_Mc_108 13 rfl rfl rfl rfl rfl (Rok.lt (by omega)) d_Mc_perform_253 rfl rfl
set_option maxHeartbeats 4000000 in
set_option maxRecDepth 100000 in
theorem c_Mc_perform19 {l : Launch} {z : Zt} {a u w : Nat → Nat} {P : Pm} {F : Int32} {T : Tk} {N : Nm} {C D : Co} {M : Mc} (h : Nat) (hlt : l.stackTraces = false) {f t : Nat} (hf : f < 2 ^ 31) (hof : ∀ f, f < 11 → M.2.1 f < 11) (hd : M.2.2.2.2.2.1 < 11) (ht : M.2.2.2.2.1 ≤ 21) (hs : M.2.2.2.2.2.2.2.2.2.2.1 ≤ 400) (hwr : M.2.2.2.2.2.2.2.2.1 ≤ 32) (hde : M.2.2.2.2.2.2.2.2.2.2.2 ≤ 10) : XC l (Gz z) (h + 3) y_Mc_perform b_Mc_perform 4 none [.ref (a 13), .int (nI 19), .int (nI f), .int (nI t)] (cw z a u w P F T N C D M) (.inl none) (cw z a u w P F T N C D (mc_perform D M 19 f t).2) := by
  refine XC.ofV (by decide +kernel) rfl ?_
  intro p e s m below meth c X hnm
  refine V.lvs (lv' := [(0, .ref (a 13)), (1, .int (nI 19)), (2, .int (nI f)), (3, .int (nI t))]) rfl ?_
  refine V.iload_n X d_Mc_perform_0 rfl ?_
  refine V.tableIn (off := 258) (tgt := 259) X d_Mc_perform_1 (by decide +kernel) (by decide +kernel) (by decide +kernel) (by decide) ?_
  refine V.aload_n X d_Mc_perform_259 rfl ?_
  refine V.callV0 X (c_Mc_leave (h + 2) hd) Y_Mc_leave k_Mc_111 13 rfl rfl rfl rfl rfl (Rok.lt (by omega)) d_Mc_perform_260 ?_
  refine V.goto (tgt := 282) X d_Mc_perform_263 (by decide) ?_
  exact V.vret X d_Mc_perform_282 rfl rfl
set_option maxHeartbeats 4000000 in
set_option maxRecDepth 100000 in
theorem c_Mc_perform20 {l : Launch} {z : Zt} {a u w : Nat → Nat} {P : Pm} {F : Int32} {T : Tk} {N : Nm} {C D : Co} {M : Mc} (h : Nat) (hlt : l.stackTraces = false) {f t : Nat} (hf : f < 2 ^ 31) (hof : ∀ f, f < 11 → M.2.1 f < 11) (hd : M.2.2.2.2.2.1 < 11) (ht : M.2.2.2.2.1 ≤ 21) (hs : M.2.2.2.2.2.2.2.2.2.2.1 ≤ 400) (hwr : M.2.2.2.2.2.2.2.2.1 ≤ 32) (hde : M.2.2.2.2.2.2.2.2.2.2.2 ≤ 10) : XC l (Gz z) (h + 3) y_Mc_perform b_Mc_perform 4 none [.ref (a 13), .int (nI 20), .int (nI f), .int (nI t)] (cw z a u w P F T N C D M) (.inl none) (cw z a u w P F T N C D (mc_perform D M 20 f t).2) := by
  refine XC.ofV (by decide +kernel) rfl ?_
  intro p e s m below meth c X hnm
  refine V.lvs (lv' := [(0, .ref (a 13)), (1, .int (nI 20)), (2, .int (nI f)), (3, .int (nI t))]) rfl ?_
  refine V.iload_n X d_Mc_perform_0 rfl ?_
  refine V.tableIn (off := 265) (tgt := 266) X d_Mc_perform_1 (by decide +kernel) (by decide +kernel) (by decide +kernel) (by decide) ?_
  refine V.aload_n X d_Mc_perform_266 rfl ?_
  refine V.aload_n X d_Mc_perform_267 rfl ?_
  refine V.callV1 X (c_Mc_pop (h + 2) ht) Y_Mc_pop k_Mc_101 13 rfl rfl rfl rfl rfl (Rok.lt (by omega)) d_Mc_perform_268 ?_
  have hw2 : (mc_pop M).2.2.2.2.2.2.2.2.2.1 ≤ 32 := by unfold mc_pop; split <;> exact hwr
  refine V.callV0 X (c_Mc_put (h + 2) (by omega)) Y_Mc_put k_Mc_114 13 rfl rfl rfl rfl rfl (Rok.lt (by omega)) d_Mc_perform_271 ?_
  refine V.goto (tgt := 282) X d_Mc_perform_274 (by decide) ?_
  exact V.vret X d_Mc_perform_282 rfl rfl
theorem c_Mc_perform {l : Launch} {z : Zt} {a u w : Nat → Nat} {P : Pm} {F : Int32} {T : Tk} {N : Nm} {C D : Co} {M : Mc} (h : Nat) (hlt : l.stackTraces = false) {f t : Nat} (hf : f < 2 ^ 31) (hof : ∀ f, f < 11 → M.2.1 f < 11) (hd : M.2.2.2.2.2.1 < 11) (ht : M.2.2.2.2.1 ≤ 21) (hs : M.2.2.2.2.2.2.2.2.2.2.1 ≤ 400) (hwr : M.2.2.2.2.2.2.2.2.1 ≤ 32) (hde : M.2.2.2.2.2.2.2.2.2.2.2 ≤ 10) {x : Nat} (hx : x ≤ 20) (h6 : x = 18 → t < 6 ∧ D.2.2.2.2.1 t ≤ 12) : XC l (Gz z) (h + 3) y_Mc_perform b_Mc_perform 4 none [.ref (a 13), .int (nI x), .int (nI f), .int (nI t)] (cw z a u w P F T N C D M) (oc_of (mc_perform D M x f t).1) (cw z a u w P F T N C D (mc_perform D M x f t).2) := by
  rcases (show x = 0 ∨ x = 1 ∨ x = 2 ∨ x = 3 ∨ x = 4 ∨ x = 5 ∨ x = 6 ∨ x = 7 ∨ x = 8 ∨ x = 9 ∨ x = 10 ∨ x = 11 ∨ x = 12 ∨ x = 13 ∨ x = 14 ∨ x = 15 ∨ x = 16 ∨ x = 17 ∨ x = 18 ∨ x = 19 ∨ x = 20 by omega) with rfl | rfl | rfl | rfl | rfl | rfl | rfl | rfl | rfl | rfl | rfl | rfl | rfl | rfl | rfl | rfl | rfl | rfl | rfl | rfl | rfl
  · by_cases h4 : M.2.2.2.2.2.2.2.2.2.2.1 = 400
    · rw [show (mc_perform D M 0 f t).1 = some ISE from by rw [show mc_perform D M 0 f t = (some ISE, M) from if_pos h4]]
      exact c_Mc_perform0X h hlt hf hof hd ht hs hwr hde h4
    · rw [show (mc_perform D M 0 f t).1 = none from by rw [show mc_perform D M 0 f t = (none, mc_step M) from if_neg h4]]
      exact c_Mc_perform0 h hlt hf hof hd ht hs hwr hde h4
  · exact c_Mc_perform1 h hlt hf hof hd ht hs hwr hde
  · exact c_Mc_perform2 h hlt hf hof hd ht hs hwr hde
  · exact c_Mc_perform3 h hlt hf hof hd ht hs hwr hde
  · exact c_Mc_perform4 h hlt hf hof hd ht hs hwr hde
  · exact c_Mc_perform5 h hlt hf hof hd ht hs hwr hde
  · exact c_Mc_perform6 h hlt hf hof hd ht hs hwr hde
  · exact c_Mc_perform7 h hlt hf hof hd ht hs hwr hde
  · exact c_Mc_perform8 h hlt hf hof hd ht hs hwr hde
  · exact c_Mc_perform9 h hlt hf hof hd ht hs hwr hde
  · exact c_Mc_perform10 h hlt hf hof hd ht hs hwr hde
  · by_cases hj : (mc_two M).2.1 = 0
    · rw [show (mc_perform D M 11 f t).1 = some ARE from by rw [show mc_perform D M 11 f t = (some ARE, (mc_two M).2.2) from if_pos hj]]
      exact c_Mc_perform11X h hlt hf hof hd ht hs hwr hde hj
    · rw [show (mc_perform D M 11 f t).1 = none from by rw [show mc_perform D M 11 f t = (none, mc_comb M 11) from if_neg hj]]
      exact c_Mc_perform11 h hlt hf hof hd ht hs hwr hde hj
  · by_cases hj : (mc_two M).2.1 = 0
    · rw [show (mc_perform D M 12 f t).1 = some ARE from by rw [show mc_perform D M 12 f t = (some ARE, (mc_two M).2.2) from if_pos hj]]
      exact c_Mc_perform12X h hlt hf hof hd ht hs hwr hde hj
    · rw [show (mc_perform D M 12 f t).1 = none from by rw [show mc_perform D M 12 f t = (none, mc_comb M 12) from if_neg hj]]
      exact c_Mc_perform12 h hlt hf hof hd ht hs hwr hde hj
  · exact c_Mc_perform13 h hlt hf hof hd ht hs hwr hde
  · exact c_Mc_perform14 h hlt hf hof hd ht hs hwr hde
  · exact c_Mc_perform15 h hlt hf hof hd ht hs hwr hde
  · exact c_Mc_perform16 h hlt hf hof hd ht hs hwr hde
  · exact c_Mc_perform17 h hlt hf hof hd ht hs hwr hde
  · by_cases h4 : M.2.2.2.2.2.1 = 10
    · rw [show (mc_perform D M 18 f t).1 = some IOE from by rw [show mc_perform D M 18 f t = (some IOE, M) from if_pos h4]]
      exact c_Mc_perform18X h hlt hf hof hd ht hs hwr hde h4
    · rw [show (mc_perform D M 18 f t).1 = none from by rw [show mc_perform D M 18 f t = (none, mc_enter D M (mc_out M f M.2.2.2.2.2.1) t) from if_neg h4]]
      exact c_Mc_perform18 h hlt hf hof hd ht hs hwr hde (h6 rfl).1 (h6 rfl).2 h4
  · exact c_Mc_perform19 h hlt hf hof hd ht hs hwr hde
  · exact c_Mc_perform20 h hlt hf hof hd ht hs hwr hde
