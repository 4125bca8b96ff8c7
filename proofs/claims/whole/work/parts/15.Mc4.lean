/-! ===== Machine: execute ===== -/
/-- a code that the machine can run -/
def CdOk (D : Co) : Prop := D.2.2.2.2.2.2.1 ≤ 300 ∧ (∀ i, i < D.2.2.2.2.2.2.1 → D.1 i ≤ 20 ∧ D.2.1 i < 2 ^ 31 ∧ (D.1 i = 18 → D.2.2.1 i < 6)) ∧ (∀ q, q < 6 → D.2.2.2.2.1 q ≤ 12 ∧ D.2.2.2.1 q < 2 ^ 31) ∧ D.2.2.2.2.2.2.2 < 2 ^ 31
def McOk (M : Mc) : Prop := (∀ f, f < 11 → M.2.1 f < 11) ∧ M.2.2.2.2.2.1 < 11 ∧ M.2.2.2.2.1 ≤ 21 ∧ M.2.2.2.2.2.2.2.2.2.2.1 ≤ 400 ∧ M.2.2.2.2.2.2.2.2.1 ≤ 32 ∧ M.2.2.2.2.2.2.2.2.2.2.2 ≤ 10 ∧ M.2.2.2.2.2.2.1 < 2 ^ 31 ∧ ∀ f, f < 11 → M.2.2.1 f < 2 ^ 31
theorem ok_push {M : Mc} (h : McOk M) (x : Int32) : McOk (mc_push M x) := by
  unfold mc_push
  split
  · exact h
  · obtain ⟨h1, h2, h3, h4⟩ := h
    refine ⟨h1, h2, ?_, h4⟩
    show M.2.2.2.2.1 + 1 ≤ 21
    omega
theorem ok_pop {M : Mc} (h : McOk M) : McOk (mc_pop M).2 := by
  unfold mc_pop
  split
  · exact h
  · obtain ⟨h1, h2, h3, h4⟩ := h
    refine ⟨h1, h2, ?_, h4⟩
    show M.2.2.2.2.1 - 1 ≤ 21
    omega
theorem ok_st {M : Mc} (h : McOk M) (x v : Int32) : McOk (mc_st M x v) := by
  unfold mc_st
  split <;> exact h
theorem ok_args {M : Mc} (h : McOk M) (n : Nat) : McOk (mc_args n M) := by
  induction n generalizing M with
  | zero => exact h
  | succ n ih => exact ih (ok_st (ok_pop h) _ _)
theorem ok_put {M : Mc} (h : McOk M) (x : Int32) : McOk (mc_put M x) := by
  unfold mc_put
  split
  · exact h
  · obtain ⟨h1, h2, h3, h4, h5, h6⟩ := h
    refine ⟨h1, h2, h3, h4, ?_, h6⟩
    show M.2.2.2.2.2.2.2.2.1 + 1 ≤ 32
    omega
theorem ok_out {M : Mc} (h : McOk M) {f : Nat} (hf : f < 11) (n : Nat) : mc_out M n f < 11 := by
  induction n generalizing f with
  | zero => exact hf
  | succ n ih => exact ih (h.1 f hf)
theorem ok_next {M : Mc} (h : McOk M) {x : Nat} (hx : x < 2 ^ 31) : McOk (M.1, M.2.1, M.2.2.1, M.2.2.2.1, M.2.2.2.2.1, M.2.2.2.2.2.1, x, M.2.2.2.2.2.2.2.1, M.2.2.2.2.2.2.2.2.1, M.2.2.2.2.2.2.2.2.2.1, M.2.2.2.2.2.2.2.2.2.2.1, M.2.2.2.2.2.2.2.2.2.2.2) := by
  obtain ⟨h1, h2, h3, h4, h5, h6, h7, h8⟩ := h
  exact ⟨h1, h2, h3, h4, h5, h6, hx, h8⟩
theorem ok_enter {D : Co} (hD : CdOk D) {M : Mc} (h : McOk M) {f q : Nat} (hf : f < 11) (hq : q < 6) (hd : M.2.2.2.2.2.1 ≠ 10) : McOk (mc_enter D M f q) := by
  have hin : McOk (mc_clr (mc_in M f) 12) := by
    obtain ⟨h1, h2, h3, h4, h5, h6, h7, h8⟩ := h
    refine ⟨fun g hg => ?_, ?_, h3, h4, h5, ?_, h7, fun g hg => ?_⟩
    · show va_up M.2.1 (M.2.2.2.2.2.1 + 1) f g < 11
      unfold va_up
      split
      · exact hf
      · exact h1 g hg
    · show M.2.2.2.2.2.1 + 1 < 11
      omega
    · show max M.2.2.2.2.2.2.2.2.2.2.2 (M.2.2.2.2.2.1 + 1) ≤ 10
      omega
    · show va_up M.2.2.1 (M.2.2.2.2.2.1 + 1) M.2.2.2.2.2.2.1 g < 2 ^ 31
      unfold va_up
      split
      · exact h7
      · exact h8 g hg
  exact ok_next (ok_args hin _) (hD.2.2.1 q hq).2
theorem ok_leave {D : Co} (hD : CdOk D) {M : Mc} (h : McOk M) : McOk (mc_leave D M) := by
  unfold mc_leave
  split
  · exact ok_next h (by have := hD.1; omega)
  · obtain ⟨h1, h2, h3, h4, h5, h6, h7, h8⟩ := h
    exact ⟨h1, by show M.2.2.2.2.2.1 - 1 < 11; omega, h3, h4, h5, h6, h8 _ h2, h8⟩
theorem ok_begin {D : Co} (hD : CdOk D) {M : Mc} (h : McOk M) : McOk (mc_begin D M) := by
  obtain ⟨h1, h2, h3, h4, h5, h6, h7, h8⟩ := h
  exact ⟨h1, by show 0 < 11; omega, by show 0 ≤ 21; omega, by show 0 ≤ 400; omega, by show 0 ≤ 32; omega, by show 0 ≤ 10; omega, hD.2.2.2, h8⟩
theorem ok_comb {M : Mc} (h : McOk M) (x : Nat) : McOk (mc_comb M x) := ok_push (ok_pop (ok_pop h)) _
theorem ok_perform {D : Co} (hD : CdOk D) {M : Mc} (h : McOk M) {x f t : Nat} (hx : x ≤ 20) (hf : f < 2 ^ 31) (h6 : x = 18 → t < 6) : McOk (mc_perform D M x f t).2 := by
  rcases (show x = 0 ∨ x = 1 ∨ x = 2 ∨ x = 3 ∨ x = 4 ∨ x = 5 ∨ x = 6 ∨ x = 7 ∨ x = 8 ∨ x = 9 ∨ x = 10 ∨ x = 11 ∨ x = 12 ∨ x = 13 ∨ x = 14 ∨ x = 15 ∨ x = 16 ∨ x = 17 ∨ x = 18 ∨ x = 19 ∨ x = 20 by omega) with rfl | rfl | rfl | rfl | rfl | rfl | rfl | rfl | rfl | rfl | rfl | rfl | rfl | rfl | rfl | rfl | rfl | rfl | rfl | rfl | rfl
  · show McOk (if M.2.2.2.2.2.2.2.2.2.2.1 = 400 then (some ISE, M) else (none, mc_step M)).2
    split
    · exact h
    · obtain ⟨h1, h2, h3, h4, h5⟩ := h
      refine ⟨h1, h2, h3, ?_, h5⟩
      show M.2.2.2.2.2.2.2.2.2.2.1 + 1 ≤ 400
      omega
  · exact ok_push h _
  · exact ok_push h _
  · exact ok_push h _
  · exact ok_push h _
  · exact ok_st (ok_pop h) _ _
  · exact ok_st (ok_pop h) _ _
  · exact ok_push (ok_pop h) _
  · exact ok_comb h _
  · exact ok_comb h _
  · exact ok_comb h _
  · show McOk (if (mc_two M).2.1 = 0 then (some ARE, (mc_two M).2.2) else (none, mc_comb M 11)).2
    split
    · exact ok_pop (ok_pop h)
    · exact ok_comb h _
  · show McOk (if (mc_two M).2.1 = 0 then (some ARE, (mc_two M).2.2) else (none, mc_comb M 12)).2
    split
    · exact ok_pop (ok_pop h)
    · exact ok_comb h _
  · exact ok_comb h _
  · exact ok_comb h _
  · exact ok_comb h _
  · exact ok_next h hf
  · show McOk (if (mc_pop M).1 = 0 then ((mc_pop M).2.1, (mc_pop M).2.2.1, (mc_pop M).2.2.2.1, (mc_pop M).2.2.2.2.1, (mc_pop M).2.2.2.2.2.1, (mc_pop M).2.2.2.2.2.2.1, f, (mc_pop M).2.2.2.2.2.2.2.2.1, (mc_pop M).2.2.2.2.2.2.2.2.2.1, (mc_pop M).2.2.2.2.2.2.2.2.2.2.1, (mc_pop M).2.2.2.2.2.2.2.2.2.2.2.1, (mc_pop M).2.2.2.2.2.2.2.2.2.2.2.2) else (mc_pop M).2)
    split
    · exact ok_next (ok_pop h) hf
    · exact ok_pop h
  · show McOk (if M.2.2.2.2.2.1 = 10 then (some IOE, M) else (none, mc_enter D M (mc_out M f M.2.2.2.2.2.1) t)).2
    split
    · exact h
    · rename_i hd
      exact ok_enter hD h (ok_out h h.2.1 _) (h6 rfl) hd
  · exact ok_leave hD h
  · exact ok_put (ok_pop h) _
def mc_run (D : Co) : Nat → Mc → Option String × Mc
  | 0, K => (none, K)
  | n + 1, K => if D.2.2.2.2.2.2.1 ≤ K.2.2.2.2.2.2.1 then (none, K) else match mc_perform D (K.1, K.2.1, K.2.2.1, K.2.2.2.1, K.2.2.2.2.1, K.2.2.2.2.2.1, K.2.2.2.2.2.2.1 + 1, K.2.2.2.2.2.2.2.1, K.2.2.2.2.2.2.2.2.1, K.2.2.2.2.2.2.2.2.2.1, K.2.2.2.2.2.2.2.2.2.2.1, K.2.2.2.2.2.2.2.2.2.2.2) (D.1 K.2.2.2.2.2.2.1) (D.2.1 K.2.2.2.2.2.2.1) (D.2.2.1 K.2.2.2.2.2.2.1) with
    | (none, K2) => mc_run D n K2
    | (some E, K2) => (some E, K2)
theorem ok_run {D : Co} (hD : CdOk D) : ∀ (n : Nat) {K : Mc}, McOk K → McOk (mc_run D n K).2 := by
  intro n
  induction n with
  | zero => intro K h; exact h
  | succ n ih =>
    intro K h
    unfold mc_run
    split
    · exact h
    · rename_i hn
      have hi := Nat.not_le.mp hn
      obtain ⟨q1, q2, q3⟩ := hD.2.1 _ hi
      have hk := ok_perform hD (ok_next h (x := K.2.2.2.2.2.2.1 + 1) (by have := hD.1; omega)) q1 q2 (t := D.2.2.1 K.2.2.2.2.2.2.1) q3
      split
      · rename_i K2 hp
        rw [hp] at hk
        exact ih hk
      · rename_i E K2 hp
        rw [hp] at hk
        exact hk
set_option maxHeartbeats 4000000 in
set_option maxRecDepth 100000 in
theorem c_Mc_execute {l : Launch} {z : Zt} {a u w : Nat → Nat} {P : Pm} {F : Int32} {T : Tk} {N : Nm} {C D : Co} {M : Mc} (h : Nat) (hlt : l.stackTraces = false) (hD : CdOk D) (hM : McOk M) : XC l (Gz z) (h + 4) y_Mc_execute b_Mc_execute 3 none [.ref (a 13)] (cw z a u w P F T N C D M) (oc_of (mc_run D 1000000 (mc_begin D M)).1) (cw z a u w P F T N C D (mc_run D 1000000 (mc_begin D M)).2) := by
  refine XC.ofV (by decide +kernel) rfl ?_
  intro p e s m below meth c X hnm
  refine V.lvs (lv' := [(0, .ref (a 13))]) rfl ?_
  refine V.aload_n X d_Mc_execute_0 rfl ?_
  refine V.callV0 X (c_Mc_begin (h + 1)) Y_Mc_begin k_Mc_56 13 rfl rfl rfl rfl rfl (Rok.lt (by omega)) d_Mc_execute_1 ?_
  refine V.iconst (v := nI 0) X d_Mc_execute_4 (by decide +kernel) ?_
  refine V.istore_n (lv' := [(0, _), (1, _)]) X d_Mc_execute_5 (by decide) rfl ?_
  suffices loop6 : ∀ (n i : Nat) (K : Mc), i + n = 1000000 → McOk K → V p l e (Rm (h + 4)) s m ([.ref (a 13)] : List Value).toArray below meth c (Gz z) 3 0 0 (XE below (Gz z) (oc_of (mc_run D n K).1) (cw z a u w P F T N C D (mc_run D n K).2) ([.ref (a 13)] : List Value).toArray s) (cw z a u w P F T N C D K) 6 [(0, .ref (a 13)), (1, .int (nI i))] [] from loop6 1000000 0 _ rfl (ok_begin hD hM)
  intro n
  induction n with
  | zero =>
    intro i K hi hK
    refine V.iload_n X d_Mc_execute_6 rfl ?_
    refine V.ldc (v := nI 1000000) X d_Mc_execute_7 (by have q := k_Mc_59; rwa [show (1000000 : Int32) = nI 1000000 from by decide +kernel] at q) ?_
    refine V.cmpN_ge (tgt := 78) X d_Mc_execute_9 (by decide) (by first | omega | (dsimp only; omega) | (simp only [] at *; omega)) (by first | omega | (dsimp only; omega) | (simp only [] at *; omega)) (fun h9 => ?_) (fun h9 => absurd h9 (by omega))
    exact V.vret X d_Mc_execute_78 rfl rfl
  | succ n ih =>
    intro i K hi hK
    have hKn := hK.2.2.2.2.2.2.1
    have hDs := hD.1
    refine V.iload_n X d_Mc_execute_6 rfl ?_
    refine V.ldc (v := nI 1000000) X d_Mc_execute_7 (by have q := k_Mc_59; rwa [show (1000000 : Int32) = nI 1000000 from by decide +kernel] at q) ?_
    refine V.cmpN_ge (tgt := 78) X d_Mc_execute_9 (by decide) (by first | omega | (dsimp only; omega) | (simp only [] at *; omega)) (by first | omega | (dsimp only; omega) | (simp only [] at *; omega)) (fun h9 => absurd h9 (by omega)) (fun h9 => ?_)
    refine V.aload_n X d_Mc_execute_12 rfl ?_
    refine g_Mc_next X k_Mc_38 d_Mc_execute_13 ?_
    refine V.aload_n X d_Mc_execute_16 rfl ?_
    refine g_Mc_program X k_Mc_14 d_Mc_execute_17 ?_
    refine g_Cd_size X k_Mc_60 d_Mc_execute_20 ?_
    refine V.cmpN_ge (tgt := 78) X d_Mc_execute_23 (by decide) (by first | omega | (dsimp only; omega) | (simp only [] at *; omega)) (by first | omega | (dsimp only; omega) | (simp only [] at *; omega)) (fun h23 => ?_) (fun h23 => ?_)
    · rw [show mc_run D (n + 1) K = (none, K) from by rw [mc_run, if_pos h23]]
      exact V.vret X d_Mc_execute_78 rfl rfl
    · obtain ⟨q1, q2, q3⟩ := hD.2.1 _ h23
      have hK1 := ok_next hK (x := K.2.2.2.2.2.2.1 + 1) (by omega)
      refine V.aload_n X d_Mc_execute_26 rfl ?_
      refine g_Mc_next X k_Mc_38 d_Mc_execute_27 ?_
      refine V.istore_n (lv' := [(0, _), (1, _), (2, _)]) X d_Mc_execute_30 (by decide) rfl ?_
      refine V.aload_n X d_Mc_execute_31 rfl ?_
      refine V.dup X d_Mc_execute_32 rfl ?_
      refine g_Mc_next X k_Mc_38 d_Mc_execute_33 ?_
      refine V.iconst (v := nI 1) X d_Mc_execute_36 (by decide +kernel) ?_
      refine V.iadd X d_Mc_execute_37 (nI_add _ _) ?_
      refine p_Mc_next X k_Mc_38 d_Mc_execute_38 ?_
      refine V.aload_n X d_Mc_execute_41 rfl ?_
      refine V.aload_n X d_Mc_execute_42 rfl ?_
      refine g_Mc_program X k_Mc_14 d_Mc_execute_43 ?_
      refine g_Cd_operations X k_Mc_63 d_Mc_execute_46 ?_
      refine V.iload_n X d_Mc_execute_49 rfl ?_
      refine l_Cd_operations X (by first | omega | (dsimp only; omega) | (simp only [] at *; omega)) d_Mc_execute_50 ?_
      refine V.aload_n X d_Mc_execute_51 rfl ?_
      refine g_Mc_program X k_Mc_14 d_Mc_execute_52 ?_
      refine g_Cd_firsts X k_Mc_66 d_Mc_execute_55 ?_
      refine V.iload_n X d_Mc_execute_58 rfl ?_
      refine l_Cd_firsts X (by first | omega | (dsimp only; omega) | (simp only [] at *; omega)) d_Mc_execute_59 ?_
      refine V.aload_n X d_Mc_execute_60 rfl ?_
      refine g_Mc_program X k_Mc_14 d_Mc_execute_61 ?_
      refine g_Cd_seconds X k_Mc_69 d_Mc_execute_64 ?_
      refine V.iload_n X d_Mc_execute_67 rfl ?_
      refine l_Cd_seconds X (by first | omega | (dsimp only; omega) | (simp only [] at *; omega)) d_Mc_execute_68 ?_
      have q := c_Mc_perform (l := l) (z := z) (a := a) (u := u) (w := w) (P := P) (F := F) (T := T) (N := N) (C := C) (D := D) (M := (K.1, K.2.1, K.2.2.1, K.2.2.2.1, K.2.2.2.2.1, K.2.2.2.2.2.1, K.2.2.2.2.2.2.1 + 1, K.2.2.2.2.2.2.2.1, K.2.2.2.2.2.2.2.2.1, K.2.2.2.2.2.2.2.2.2.1, K.2.2.2.2.2.2.2.2.2.2.1, K.2.2.2.2.2.2.2.2.2.2.2)) h hlt (t := D.2.2.1 K.2.2.2.2.2.2.1) q2 hK1.1 hK1.2.1 hK1.2.2.1 hK1.2.2.2.1 hK1.2.2.2.2.1 hK1.2.2.2.2.2.1 q1 (fun e => ⟨q3 e, (hD.2.2.1 _ (q3 e)).1⟩)
      have hok := ok_perform hD hK1 q1 q2 (t := D.2.2.1 K.2.2.2.2.2.2.1) q3
      rcases hp : mc_perform D (K.1, K.2.1, K.2.2.1, K.2.2.2.1, K.2.2.2.2.1, K.2.2.2.2.2.1, K.2.2.2.2.2.2.1 + 1, K.2.2.2.2.2.2.2.1, K.2.2.2.2.2.2.2.2.1, K.2.2.2.2.2.2.2.2.2.1, K.2.2.2.2.2.2.2.2.2.2.1, K.2.2.2.2.2.2.2.2.2.2.2) (D.1 K.2.2.2.2.2.2.1) (D.2.1 K.2.2.2.2.2.2.1) (D.2.2.1 K.2.2.2.2.2.2.1) with ⟨_ | E, K2⟩
      · rw [hp] at q hok
        rw [show mc_run D (n + 1) K = mc_run D n K2 from by rw [mc_run, if_neg (Nat.not_le.mpr h23), hp]]
        refine V.callV0 X q Y_Mc_perform k_Mc_72 13 rfl rfl rfl rfl rfl (Rok.lt (by omega)) d_Mc_execute_69 ?_
        refine V.iinc (lv' := [(0, _), (1, _), (2, _)]) X d_Mc_execute_72 rfl (show _ + nI 1 = _ from nI_add _ 1) (by decide) rfl ?_
        refine V.goto (tgt := 6) X d_Mc_execute_75 (by decide) ?_
        refine V.pick [0, 1] (lv' := [(0, .ref (a 13)), (1, .int (nI (i + 1)))]) rfl ?_
        exact ih _ _ (by omega) hok
      · rw [hp] at q
        rw [show mc_run D (n + 1) K = (some E, K2) from by rw [mc_run, if_neg (Nat.not_le.mpr h23), hp]]
        exact V.callVX X q Y_Mc_perform k_Mc_72 13 rfl rfl rfl rfl rfl (Rok.lt (by omega)) d_Mc_execute_69 rfl rfl
