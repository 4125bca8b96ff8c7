/-! ===== Compiler ===== -/
theorem bd_tail {x : CS → CR} {S : CS} {R : CR} (h : x S = R) : bd x (fun v S1 => (.inr v, S1)) S = R := by
  rw [← h]
  unfold bd
  rcases x S with ⟨q | v, S1⟩ <;> rfl
theorem k_acc_t {l : Launch} {z : Zt} {a u w : Nat → Nat} {P : Pm} {F : Int32} {T : Tk} {m : Nat} {D : Co} {M : Mc} {S : CS} (h : Nat) (t : TkOk T m) (o : Ok m S) {q : Nat} (hq : q < 29) (hk : kd T S.1 = q) : XC l (Gz z) (h + 1) y_Tk_accept b_Tk_accept 2 (some .boolean) [.ref (a 3), .ref (ek z q)] (Wc z a u w P F T D M S) (.inl (some (.int (nI 1)))) (Wc z a u w P F T D M (adv S)) := by
  have := k_accept_t (l := l) (z := z) (a := a) (u := u) (w := w) (P := P) (F := F) (D := D) (M := M) h t o hq hk
  rw [decide_eq_true hk] at this
  exact this
theorem k_acc_f {l : Launch} {z : Zt} {a u w : Nat → Nat} {P : Pm} {F : Int32} {T : Tk} {m : Nat} {D : Co} {M : Mc} {S : CS} (h : Nat) (t : TkOk T m) (o : Ok m S) {q : Nat} (hq : q < 29) (hk : ¬ kd T S.1 = q) : XC l (Gz z) (h + 1) y_Tk_accept b_Tk_accept 2 (some .boolean) [.ref (a 3), .ref (ek z q)] (Wc z a u w P F T D M S) (.inl (some (.int (nI 0)))) (Wc z a u w P F T D M S) := by
  have := k_accept_f (l := l) (z := z) (a := a) (u := u) (w := w) (P := P) (F := F) (D := D) (M := M) h t o hq hk
  rw [decide_eq_false hk] at this
  exact this
set_option maxHeartbeats 4000000 in
theorem c_Cp_refuse {l : Launch} {z : Zt} {a u w : Nat → Nat} {P : Pm} {F : Int32} {T : Tk} {D : Co} {M : Mc} {S : CS} {q : Nat} (h : Nat) (hlt : l.stackTraces = false) : XC l (Gz z) h y_Cp_refuse b_Cp_refuse 2 none [.ref (a 2), .int (nI q)] (Wc z a u w P F T D M S) (.inr IAE) (Wr z a u w P F T D M (.inl q, S)) := by
  refine XC.ofV (by decide +kernel) rfl ?_
  intro p e s m below meth c X hnm
  refine V.lvs (lv' := [(0, .ref (a 2)), (1, .int (nI q))]) rfl ?_
  refine V.aload_n X d_Cp_refuse_0 rfl ?_
  refine V.iload_n X d_Cp_refuse_1 rfl ?_
  refine p_Cp_faultPlace X k_Cp_32 d_Cp_refuse_2 ?_
  exact x_Cp_83 X hlt d_Cp_refuse_5 d_Cp_refuse_8 d_Cp_refuse_9 d_Cp_refuse_12 rfl rfl rfl
set_option maxHeartbeats 4000000 in
set_option maxRecDepth 100000 in
theorem c_Cp_expect {l : Launch} {z : Zt} {a u w : Nat → Nat} {P : Pm} {F : Int32} {T : Tk} {m : Nat} {D : Co} {M : Mc} {S : CS} {Rr : CR} (h : Nat) (hlt : l.stackTraces = false) (t : TkOk T m) (o : Ok m S) {q : Nat} (hq : q < 27) (hres : cp_expect T q S = Rr) : XC l (Gz z) (h + 2) y_Cp_expect b_Cp_expect 2 none [.ref (a 2), .ref (ek z q)] (Wc z a u w P F T D M S) (oc vV Rr.1) (Wr z a u w P F T D M Rr) := by
  rw [cp_expect] at hres
  refine XC.ofV (by decide +kernel) rfl ?_
  intro p e s m9 below meth c X hnm
  refine V.lvs (lv' := [(0, .ref (a 2)), (1, .ref (ek z q))]) rfl ?_
  refine V.aload_n X d_Cp_expect_0 rfl ?_
  refine g_Cp_tokens X k_Cp_12 d_Cp_expect_1 ?_
  refine V.aload_n X d_Cp_expect_4 rfl ?_
  by_cases h5 : kd T S.1 = q
  · first | rw [if_pos h5] at hres | rw [if_neg h5] at hres | skip
    refine V.callV1 X (k_acc_t (S := S) h t o (by omega) h5) Y_Tk_accept k_Cp_84 3 rfl rfl rfl rfl rfl (Rok.lt (by omega)) d_Cp_expect_5 ?_
    have o1 := ok_adv (S := S) t o h5 hq
    refine V.ifN_ne (tgt := 22) X d_Cp_expect_8 (by decide) (by decide) (fun _ => ?_) (fun h => absurd h (by decide))
    subst hres
    exact V.vret X d_Cp_expect_22 rfl rfl
  · first | rw [if_pos h5] at hres | rw [if_neg h5] at hres | skip
    refine V.callV1 X (k_acc_f (S := S) h t o (by omega) h5) Y_Tk_accept k_Cp_84 3 rfl rfl rfl rfl rfl (Rok.lt (by omega)) d_Cp_expect_5 ?_
    refine V.ifN_ne (tgt := 22) X d_Cp_expect_8 (by decide) (by decide) (fun h => absurd rfl h) (fun _ => ?_)
    refine V.aload_n X d_Cp_expect_11 rfl ?_
    refine V.aload_n X d_Cp_expect_12 rfl ?_
    refine g_Cp_tokens X k_Cp_12 d_Cp_expect_13 ?_
    refine V.callV1 X (k_place (S := S) h t o) Y_Tk_place k_Cp_70 3 rfl rfl rfl rfl rfl (Rok.lt (by omega)) d_Cp_expect_16 ?_
    subst hres
    exact V.callVX X (c_Cp_refuse (S := S) h hlt) Y_Cp_refuse k_Cp_74 2 rfl rfl rfl rfl rfl (Rok.lt (by omega)) d_Cp_expect_19 rfl rfl
set_option maxHeartbeats 4000000 in
set_option maxRecDepth 100000 in
theorem c_Cp_comparison {l : Launch} {z : Zt} {a u w : Nat → Nat} {P : Pm} {F : Int32} {T : Tk} {m : Nat} {D : Co} {M : Mc} {S : CS} (h : Nat) (hlt : l.stackTraces = false) (t : TkOk T m) (o : Ok m S) : XC l (Gz z) (h + 1) y_Cp_comparison b_Cp_comparison 1 (some .int) [.ref (a 2)] (Wc z a u w P F T D M S) (.inl (some (.int (fI (cmpop (kd T S.1)))))) (Wc z a u w P F T D M S) := by
  have hres : cmpop (kd T S.1) = cmpop (kd T S.1) := rfl
  conv at hres => lhs; rw [cmpop]
  refine XC.ofV (by decide +kernel) rfl ?_
  intro p e s m9 below meth c X hnm
  refine V.lvs (lv' := [(0, .ref (a 2))]) rfl ?_
  refine V.getSw X k_Cp_172 d_Cp_comparison_0 ?_
  refine V.aload_n X d_Cp_comparison_3 rfl ?_
  refine g_Cp_tokens X k_Cp_12 d_Cp_comparison_4 ?_
  refine V.callV1 X (k_kind (S := S) h t o) Y_Tk_kind k_Cp_63 3 rfl rfl rfl rfl rfl (Rok.lt (by omega)) d_Cp_comparison_7 ?_
  refine V.ordinal X h (t.some o.1).2 k_Cp_177 rfl (Rok.lt (by omega)) d_Cp_comparison_10 ?_
  refine V.ldSw X (t.some o.1).2 d_Cp_comparison_13 ?_
  by_cases w16 : kd T S.1 = 16
  · first | rw [if_pos w16] at hres | rw [if_neg w16] at hres | skip
    refine V.eqs (sk' := [.int (nI 6)]) (by rw [w16]; rfl) ?_
    refine V.tableIn (off := 26) (tgt := 40) X d_Cp_comparison_14 (by decide +kernel) (by decide +kernel) (by decide +kernel) (by decide) ?_
    refine V.bipush (v := nI 13) X d_Cp_comparison_40 (by decide +kernel) ?_
    rw [← hres]
    exact V.iret X d_Cp_comparison_42 rfl rfl
  · first | rw [if_pos w16] at hres | rw [if_neg w16] at hres | skip
    by_cases w17 : kd T S.1 = 17
    · first | rw [if_pos w17] at hres | rw [if_neg w17] at hres | skip
      refine V.eqs (sk' := [.int (nI 7)]) (by rw [w17]; rfl) ?_
      refine V.tableIn (off := 29) (tgt := 43) X d_Cp_comparison_14 (by decide +kernel) (by decide +kernel) (by decide +kernel) (by decide) ?_
      refine V.bipush (v := nI 14) X d_Cp_comparison_43 (by decide +kernel) ?_
      rw [← hres]
      exact V.iret X d_Cp_comparison_45 rfl rfl
    · first | rw [if_pos w17] at hres | rw [if_neg w17] at hres | skip
      by_cases w18 : kd T S.1 = 18
      · first | rw [if_pos w18] at hres | rw [if_neg w18] at hres | skip
        refine V.eqs (sk' := [.int (nI 8)]) (by rw [w18]; rfl) ?_
        refine V.tableIn (off := 32) (tgt := 46) X d_Cp_comparison_14 (by decide +kernel) (by decide +kernel) (by decide +kernel) (by decide) ?_
        refine V.bipush (v := nI 15) X d_Cp_comparison_46 (by decide +kernel) ?_
        rw [← hres]
        exact V.iret X d_Cp_comparison_48 rfl rfl
      · first | rw [if_pos w18] at hres | rw [if_neg w18] at hres | skip
        have hdf : ∀ k, k < 29 → k ≠ 16 ∧ k ≠ 17 ∧ k ≠ 18 → ((nI (swm k)).toInt < 6 ∨ 8 < (nI (swm k)).toInt) := by decide +kernel
        refine V.tableOut (tgt := 49) X d_Cp_comparison_14 (hdf _ (t.some o.1).2 ⟨w16, w17, w18⟩) (by decide) ?_
        refine V.iconst (v := -1) X d_Cp_comparison_49 (by decide +kernel) ?_
        rw [← hres]
        exact V.iret X d_Cp_comparison_50 rfl rfl
set_option maxHeartbeats 4000000 in
set_option maxRecDepth 100000 in
theorem c_Cp_multiplication {l : Launch} {z : Zt} {a u w : Nat → Nat} {P : Pm} {F : Int32} {T : Tk} {m : Nat} {D : Co} {M : Mc} {S : CS} (h : Nat) (hlt : l.stackTraces = false) (t : TkOk T m) (o : Ok m S) : XC l (Gz z) (h + 1) y_Cp_multiplication b_Cp_multiplication 1 (some .int) [.ref (a 2)] (Wc z a u w P F T D M S) (.inl (some (.int (fI (mulop (kd T S.1)))))) (Wc z a u w P F T D M S) := by
  have hres : mulop (kd T S.1) = mulop (kd T S.1) := rfl
  conv at hres => lhs; rw [mulop]
  refine XC.ofV (by decide +kernel) rfl ?_
  intro p e s m9 below meth c X hnm
  refine V.lvs (lv' := [(0, .ref (a 2))]) rfl ?_
  refine V.getSw X k_Cp_172 d_Cp_multiplication_0 ?_
  refine V.aload_n X d_Cp_multiplication_3 rfl ?_
  refine g_Cp_tokens X k_Cp_12 d_Cp_multiplication_4 ?_
  refine V.callV1 X (k_kind (S := S) h t o) Y_Tk_kind k_Cp_63 3 rfl rfl rfl rfl rfl (Rok.lt (by omega)) d_Cp_multiplication_7 ?_
  refine V.ordinal X h (t.some o.1).2 k_Cp_177 rfl (Rok.lt (by omega)) d_Cp_multiplication_10 ?_
  refine V.ldSw X (t.some o.1).2 d_Cp_multiplication_13 ?_
  by_cases w21 : kd T S.1 = 21
  · first | rw [if_pos w21] at hres | rw [if_neg w21] at hres | skip
    refine V.eqs (sk' := [.int (nI 9)]) (by rw [w21]; rfl) ?_
    refine V.tableIn (off := 26) (tgt := 40) X d_Cp_multiplication_14 (by decide +kernel) (by decide +kernel) (by decide +kernel) (by decide) ?_
    refine V.bipush (v := nI 10) X d_Cp_multiplication_40 (by decide +kernel) ?_
    rw [← hres]
    exact V.iret X d_Cp_multiplication_42 rfl rfl
  · first | rw [if_pos w21] at hres | rw [if_neg w21] at hres | skip
    by_cases w22 : kd T S.1 = 22
    · first | rw [if_pos w22] at hres | rw [if_neg w22] at hres | skip
      refine V.eqs (sk' := [.int (nI 10)]) (by rw [w22]; rfl) ?_
      refine V.tableIn (off := 29) (tgt := 43) X d_Cp_multiplication_14 (by decide +kernel) (by decide +kernel) (by decide +kernel) (by decide) ?_
      refine V.bipush (v := nI 11) X d_Cp_multiplication_43 (by decide +kernel) ?_
      rw [← hres]
      exact V.iret X d_Cp_multiplication_45 rfl rfl
    · first | rw [if_pos w22] at hres | rw [if_neg w22] at hres | skip
      by_cases w23 : kd T S.1 = 23
      · first | rw [if_pos w23] at hres | rw [if_neg w23] at hres | skip
        refine V.eqs (sk' := [.int (nI 11)]) (by rw [w23]; rfl) ?_
        refine V.tableIn (off := 32) (tgt := 46) X d_Cp_multiplication_14 (by decide +kernel) (by decide +kernel) (by decide +kernel) (by decide) ?_
        refine V.bipush (v := nI 12) X d_Cp_multiplication_46 (by decide +kernel) ?_
        rw [← hres]
        exact V.iret X d_Cp_multiplication_48 rfl rfl
      · first | rw [if_pos w23] at hres | rw [if_neg w23] at hres | skip
        have hdf : ∀ k, k < 29 → k ≠ 21 ∧ k ≠ 22 ∧ k ≠ 23 → ((nI (swm k)).toInt < 9 ∨ 11 < (nI (swm k)).toInt) := by decide +kernel
        refine V.tableOut (tgt := 49) X d_Cp_multiplication_14 (hdf _ (t.some o.1).2 ⟨w21, w22, w23⟩) (by decide) ?_
        refine V.iconst (v := -1) X d_Cp_multiplication_49 (by decide +kernel) ?_
        rw [← hres]
        exact V.iret X d_Cp_multiplication_50 rfl rfl
set_option maxHeartbeats 4000000 in
set_option maxRecDepth 100000 in
theorem c_Cp_dec {l : Launch} {z : Zt} {a u w : Nat → Nat} {P : Pm} {F : Int32} {T : Tk} {m : Nat} {D : Co} {M : Mc} {S : CS} {Rr : CR} (h : Nat) (hlt : l.stackTraces = false) (t : TkOk T m) (o : Ok m S) {k : Nat} (hk : k ≤ 2) (hres : cp_dec T k S = Rr) : XC l (Gz z) (h + 2) y_Cp_declareName b_Cp_declareName 2 none [.ref (a 2), .int (nI k)] (Wc z a u w P F T D M S) (oc vV Rr.1) (Wr z a u w P F T D M Rr) := by
  rw [cp_dec] at hres
  refine XC.ofV (by decide +kernel) rfl ?_
  intro p e s m9 below meth c X hnm
  refine V.lvs (lv' := [(0, .ref (a 2)), (1, .int (nI k))]) rfl ?_
  refine V.aload_n X d_Cp_declareName_0 rfl ?_
  refine g_Cp_tokens X k_Cp_12 d_Cp_declareName_1 ?_
  refine V.callV1 X (k_kind (S := S) h t o) Y_Tk_kind k_Cp_63 3 rfl rfl rfl rfl rfl (Rok.lt (by omega)) d_Cp_declareName_4 ?_
  refine V.getK X 25 (by decide) k_Cp_88 d_Cp_declareName_7 ?_
  refine V.acmp_ne (tgt := 31) X d_Cp_declareName_10 (by decide) (fun h10 => ?_) (fun h10 => ?_)
  · replace h10 : ¬ kd T S.1 = 25 := fun q => h10 (by rw [q])
    first | rw [if_pos h10] at hres | rw [if_neg h10] at hres | skip
    refine V.aload_n X d_Cp_declareName_31 rfl ?_
    refine V.aload_n X d_Cp_declareName_32 rfl ?_
    refine g_Cp_tokens X k_Cp_12 d_Cp_declareName_33 ?_
    refine V.callV1 X (k_place (S := S) h t o) Y_Tk_place k_Cp_70 3 rfl rfl rfl rfl rfl (Rok.lt (by omega)) d_Cp_declareName_36 ?_
    subst hres
    exact V.callVX X (c_Cp_refuse (S := S) h hlt) Y_Cp_refuse k_Cp_74 2 rfl rfl rfl rfl rfl (Rok.lt (by omega)) d_Cp_declareName_39 rfl rfl
  · replace h10 := ek_inj X.kk (t.some o.1).2 (by decide) h10
    first | rw [if_pos h10] at hres | rw [if_neg h10] at hres | skip
    refine V.aload_n X d_Cp_declareName_13 rfl ?_
    refine g_Cp_names X k_Cp_21 d_Cp_declareName_14 ?_
    refine V.aload_n X d_Cp_declareName_17 rfl ?_
    refine g_Cp_tokens X k_Cp_12 d_Cp_declareName_18 ?_
    refine V.callV1 X (k_content (S := S) h t o) Y_Tk_content k_Cp_91 3 rfl rfl rfl rfl rfl (Rok.lt (by omega)) d_Cp_declareName_21 ?_
    refine V.iload_n X d_Cp_declareName_24 rfl ?_
    refine V.callV1 X (k_declare (S := S) h o (v := T.2.2.1 S.1) hk) Y_Nm_declare k_Cp_95 7 rfl rfl rfl rfl rfl (Rok.lt (by omega)) d_Cp_declareName_25 ?_
    have o1 : Ok m (S.1, (nm_declare S.2.1 (T.2.2.1 S.1) k).2, S.2.2) := ⟨o.1, nmOk_declare o.2.1 hk, o.2.2⟩
    refine V.ifB_ne (tgt := 42) X d_Cp_declareName_28 (by decide) (fun h28 => ?_) (fun h28 => ?_)
    · first | rw [if_pos h28] at hres | rw [if_neg h28] at hres | skip
      refine V.aload_n X d_Cp_declareName_42 rfl ?_
      refine g_Cp_tokens X k_Cp_12 d_Cp_declareName_43 ?_
      refine V.callV0 X (k_advance (S := (S.1, (nm_declare S.2.1 (T.2.2.1 S.1) k).2, S.2.2)) h t o1) Y_Tk_advance k_Cp_99 3 rfl rfl rfl rfl rfl (Rok.lt (by omega)) d_Cp_declareName_46 ?_
      have o1 := ok_adv (S := (S.1, (nm_declare S.2.1 (T.2.2.1 S.1) k).2, S.2.2)) t o1 h10 (by decide)
      subst hres
      exact V.vret X d_Cp_declareName_49 rfl rfl
    · rw [if_neg (by rw [h28]; decide)] at hres
      refine V.aload_n X d_Cp_declareName_31 rfl ?_
      refine V.aload_n X d_Cp_declareName_32 rfl ?_
      refine g_Cp_tokens X k_Cp_12 d_Cp_declareName_33 ?_
      refine V.callV1 X (k_place (S := (S.1, (nm_declare S.2.1 (T.2.2.1 S.1) k).2, S.2.2)) h t o1) Y_Tk_place k_Cp_70 3 rfl rfl rfl rfl rfl (Rok.lt (by omega)) d_Cp_declareName_36 ?_
      subst hres
      exact V.callVX X (c_Cp_refuse (S := (S.1, (nm_declare S.2.1 (T.2.2.1 S.1) k).2, S.2.2)) h hlt) Y_Cp_refuse k_Cp_74 2 rfl rfl rfl rfl rfl (Rok.lt (by omega)) d_Cp_declareName_39 rfl rfl
set_option maxHeartbeats 4000000 in
set_option maxRecDepth 100000 in
theorem c_Cp_vars {l : Launch} {z : Zt} {a u w : Nat → Nat} {P : Pm} {F : Int32} {T : Tk} {m : Nat} {D : Co} {M : Mc} {S : CS} {Rr : CR} (h : Nat) (hlt : l.stackTraces = false) (t : TkOk T m) (o : Ok m S)  (hres : cp_vars T S = Rr) : XC l (Gz z) (h + 3) y_Cp_variables b_Cp_variables 2 none [.ref (a 2)] (Wc z a u w P F T D M S) (oc vV Rr.1) (Wr z a u w P F T D M Rr) := by
  rw [cp_vars] at hres
  refine XC.ofV (by decide +kernel) rfl ?_
  intro p e s m9 below meth c X hnm
  refine V.lvs (lv' := [(0, .ref (a 2))]) rfl ?_
  refine V.aload_n X d_Cp_variables_0 rfl ?_
  refine V.iconst (v := nI 0) X d_Cp_variables_1 (by decide +kernel) ?_
  refine V.bd (val := vV) X hres (c_Cp_dec (S := S) h hlt t o (k := 0) (by decide) rfl) Y_Cp_declareName k_Cp_124 rfl rfl rfl rfl (Rok.lt (by omega)) d_Cp_variables_2 ?_
  intro v1 S1 x1 hres
  have r1 := rl_dec (k := 0) t (by decide) S o
  rw [x1] at r1
  have o1 : Ok m S1 := r1.1
  have l1 : S1.2.1.2.2.2.2.2.2.1 = S.2.1.2.2.2.2.2.2.1 := r1.2 v1 rfl
  try dsimp only at hres
  refine V.iconst (v := nI 0) X d_Cp_variables_5 (by decide +kernel) ?_
  refine V.istore_n (lv' := [(0, _), (1, _)]) X d_Cp_variables_6 (by decide) rfl ?_
  suffices loop7 : ∀ (n i : Nat) (S : CS), i + n = 150 → Ok m S → bd (cp_rep T 12 (cp_dec T 0) n) (fun _ => cp_expect T 11) S = Rr → V p l e (Rm (h + 3)) s m9 ([.ref (a 2)] : List Value).toArray below meth c (Gz z) 2 0 0 (XE below (Gz z) (oc vV Rr.1) (Wr z a u w P F T D M Rr) ([.ref (a 2)] : List Value).toArray s) (Wc z a u w P F T D M S) 7 [(0, .ref (a 2)), (1, .int (nI i))] [] from loop7 150 0 _ rfl o1 hres
  intro n
  induction n with
  | zero =>
    intro i S hi o hres
    rw [bd_rep_0] at hres
    refine V.iload_n X d_Cp_variables_7 rfl ?_
    refine V.sipush (v := nI 150) X d_Cp_variables_8 (by decide +kernel) ?_
    refine V.cmpN_ge (tgt := 38) X d_Cp_variables_11 (by decide) (by first | omega | (dsimp only; omega) | (simp only [] at *; omega)) (by first | omega | (dsimp only; omega) | (simp only [] at *; omega)) (fun h11 => ?_) (fun h11 => absurd h11 (by omega))
    refine V.aload_n X d_Cp_variables_38 rfl ?_
    refine V.getK X 11 (by decide) k_Cp_130 d_Cp_variables_39 ?_
    refine V.bd (val := vV) X (bd_tail hres) (c_Cp_expect (S := S) h hlt t o (q := 11) (by decide) rfl) Y_Cp_expect k_Cp_59 rfl rfl rfl rfl (Rok.lt (by omega)) d_Cp_variables_42 ?_
    intro v2 S2 x2 hres
    have r2 := rs_expect (q := 11) t (by decide) S
    rw [x2] at r2
    have o2 : Ok m S2 := r2.1 o
    try dsimp only at hres
    subst hres
    exact V.vret X d_Cp_variables_45 rfl rfl
  | succ n ih =>
    intro i S hi o hres
    refine V.iload_n X d_Cp_variables_7 rfl ?_
    refine V.sipush (v := nI 150) X d_Cp_variables_8 (by decide +kernel) ?_
    refine V.cmpN_ge (tgt := 38) X d_Cp_variables_11 (by decide) (by first | omega | (dsimp only; omega) | (simp only [] at *; omega)) (by first | omega | (dsimp only; omega) | (simp only [] at *; omega)) (fun h11 => absurd h11 (by omega)) (fun h11 => ?_)
    refine V.aload_n X d_Cp_variables_14 rfl ?_
    refine g_Cp_tokens X k_Cp_12 d_Cp_variables_15 ?_
    refine V.getK X 12 (by decide) k_Cp_127 d_Cp_variables_18 ?_
    by_cases h21 : kd T S.1 = 12
    · rw [bd_rep_t h21] at hres
      refine V.callV1 X (k_acc_t (S := S) h t o (by decide) h21) Y_Tk_accept k_Cp_84 3 rfl rfl rfl rfl rfl (Rok.lt (by omega)) d_Cp_variables_21 ?_
      have o3 := ok_adv (S := S) t o h21 (by decide)
      refine V.ifN_eq (tgt := 38) X d_Cp_variables_24 (by decide) (by decide) (fun h => absurd h (by decide)) (fun _ => ?_)
      refine V.aload_n X d_Cp_variables_27 rfl ?_
      refine V.iconst (v := nI 0) X d_Cp_variables_28 (by decide +kernel) ?_
      refine V.bd (val := vV) X hres (c_Cp_dec (S := (adv S)) h hlt t o3 (k := 0) (by decide) rfl) Y_Cp_declareName k_Cp_124 rfl rfl rfl rfl (Rok.lt (by omega)) d_Cp_variables_29 ?_
      intro v4 S4 x4 hres
      have r4 := rl_dec (k := 0) t (by decide) (adv S) o3
      rw [x4] at r4
      have o4 : Ok m S4 := r4.1
      have l4 : S4.2.1.2.2.2.2.2.2.1 = (adv S).2.1.2.2.2.2.2.2.1 := r4.2 v4 rfl
      try dsimp only at hres
      refine V.iinc (lv' := [(0, _), (1, _)]) X d_Cp_variables_32 rfl (show _ + nI 1 = _ from nI_add _ 1) (by decide) rfl ?_
      refine V.goto (tgt := 7) X d_Cp_variables_35 (by decide) ?_
      exact ih _ _ (by omega) o4 hres
    · rw [bd_rep_f h21] at hres
      refine V.callV1 X (k_acc_f (S := S) h t o (by decide) h21) Y_Tk_accept k_Cp_84 3 rfl rfl rfl rfl rfl (Rok.lt (by omega)) d_Cp_variables_21 ?_
      refine V.ifN_eq (tgt := 38) X d_Cp_variables_24 (by decide) (by decide) (fun _ => ?_) (fun h => absurd rfl h)
      refine V.aload_n X d_Cp_variables_38 rfl ?_
      refine V.getK X 11 (by decide) k_Cp_130 d_Cp_variables_39 ?_
      refine V.bd (val := vV) X (bd_tail hres) (c_Cp_expect (S := S) h hlt t o (q := 11) (by decide) rfl) Y_Cp_expect k_Cp_59 rfl rfl rfl rfl (Rok.lt (by omega)) d_Cp_variables_42 ?_
      intro v5 S5 x5 hres
      have r5 := rs_expect (q := 11) t (by decide) S
      rw [x5] at r5
      have o5 : Ok m S5 := r5.1 o
      try dsimp only at hres
      subst hres
      exact V.vret X d_Cp_variables_45 rfl rfl
