theorem shl_small {i : Nat} (hi : i < 3) : nI 1 <<< (nI i &&& 31) = nI (2 ^ i) := by
  rcases (show i = 0 ∨ i = 1 ∨ i = 2 by omega) with rfl | rfl | rfl <;> decide +kernel
theorem or_small {x i : Nat} (hx : x < 8) (hi : i < 3) : nI x ||| nI (2 ^ i) = nI (x ||| 2 ^ i) := by
  have h : ∀ x, x < 8 → ∀ i, i < 3 → nI x ||| nI (2 ^ i) = nI (x ||| 2 ^ i) := by decide +kernel
  exact h x hx i hi
theorem dec_proc {T : Tk} {S S1 : CS} {v : Nat} (h : cp_dec T 2 S = (.inr v, S1)) : 1 ≤ S1.2.1.2.2.2.2.2.2.2.2 := by
  unfold cp_dec at h
  split at h
  · split at h
    · rename_i h1 h2
      cases h
      show 1 ≤ (nm_declare S.2.1 (T.2.2.1 S.1) 2).2.2.2.2.2.2.2.2.2
      unfold nm_declare at h2 ⊢
      split
      · rename_i h3
        rw [if_pos h3] at h2
        cases h2
      · exact Nat.le_add_left 1 _
    · cases h
  · cases h
set_option maxHeartbeats 4000000 in
set_option maxRecDepth 100000 in
theorem c_Cp_par {l : Launch} {z : Zt} {a u w : Nat → Nat} {P : Pm} {F : Int32} {T : Tk} {m : Nat} {D : Co} {M : Mc} {S : CS} {Rr : CR} (h : Nat) (hlt : l.stackTraces = false) (t : TkOk T m) (o : Ok m S) {q : Nat} (hq : q < 6) (hres : cp_par T q S = Rr) : XC l (Gz z) (h + 3) y_Cp_parameter b_Cp_parameter 4 none [.ref (a 2), .int (nI q)] (Wc z a u w P F T D M S) (oc vV Rr.1) (Wr z a u w P F T D M Rr) := by
  rw [cp_par] at hres
  refine XC.ofV (by decide +kernel) rfl ?_
  intro p e s m9 below meth c X hnm
  refine V.lvs (lv' := [(0, .ref (a 2)), (1, .int (nI q))]) rfl ?_
  refine V.aload_n X d_Cp_parameter_0 rfl ?_
  refine g_Cp_tokens X k_Cp_12 d_Cp_parameter_1 ?_
  refine V.getK X 24 (by decide) k_Cp_163 d_Cp_parameter_4 ?_
  by_cases h7 : kd T S.1 = 24
  · first | rw [if_pos h7] at hres | rw [if_neg h7] at hres | skip
    refine V.callV1 X (k_acc_t (S := S) h t o (by decide) h7) Y_Tk_accept k_Cp_84 3 rfl rfl rfl rfl rfl (Rok.lt (by omega)) d_Cp_parameter_7 ?_
    have o1 := ok_adv (S := S) t o h7 (by decide)
    refine V.istore_n (lv' := [(0, _), (1, _), (2, _)]) X d_Cp_parameter_10 (by decide) rfl ?_
    refine V.aload_n X d_Cp_parameter_11 rfl ?_
    refine g_Cp_code X k_Cp_28 d_Cp_parameter_12 ?_
    refine g_Co_parameters X k_Cp_136 d_Cp_parameter_15 ?_
    refine V.iload_n X d_Cp_parameter_18 rfl ?_
    refine l_Co_parameters X (by first | omega | (dsimp only; omega) | (simp only [] at *; omega)) d_Cp_parameter_19 ?_
    refine V.eqs (sk' := [.int (nI (S.2.2.2.2.2.2.1 q))]) rfl ?_
    refine V.istore_n (lv' := [(0, _), (1, _), (2, _), (3, _)]) X d_Cp_parameter_20 (by decide) rfl ?_
    refine V.iload_n X d_Cp_parameter_21 rfl ?_
    refine V.iconst (v := nI 3) X d_Cp_parameter_22 (by decide +kernel) ?_
    have hp3 := o.2.2.2.2.2 q
    refine V.cmpN_ne (tgt := 37) X d_Cp_parameter_23 (by decide) (by first | omega | (dsimp only; omega) | (simp only [] at *; omega)) (by first | omega | (dsimp only; omega) | (simp only [] at *; omega)) (fun h23 => ?_) (fun h23 => ?_)
    · rw [if_neg h23] at hres
      have hi3 : S.2.2.2.2.2.2.1 q < 3 := by have : S.2.2.2.2.2.2.1 q ≤ 3 := hp3; omega
      refine V.aload_n X d_Cp_parameter_37 rfl ?_
      refine V.iload_n X d_Cp_parameter_38 rfl ?_
      refine V.ifN_eq (tgt := 46) X d_Cp_parameter_39 (by decide) (by decide) (fun h => absurd h (by decide)) (fun _ => ?_)
      refine V.iconst (v := nI 1) X d_Cp_parameter_42 (by decide +kernel) ?_
      refine V.goto (tgt := 47) X d_Cp_parameter_43 (by decide) ?_
      refine V.bd (val := vV) X hres (c_Cp_dec (S := (adv S)) h hlt t o1 (k := 1) (by decide) rfl) Y_Cp_declareName k_Cp_124 rfl rfl rfl rfl (Rok.lt (by omega)) d_Cp_parameter_47 ?_
      intro v2 S2 x2 hres
      have r2 := rl_dec (k := 1) t (by decide) (adv S) o1
      rw [x2] at r2
      have o2 : Ok m S2 := r2.1
      have l2 : S2.2.1.2.2.2.2.2.2.1 = (adv S).2.1.2.2.2.2.2.2.1 := r2.2 v2 rfl
      try dsimp only at hres
      refine V.iload_n X d_Cp_parameter_50 rfl ?_
      refine V.ifN_eq (tgt := 69) X d_Cp_parameter_51 (by decide) (by decide) (fun h => absurd h (by decide)) (fun _ => ?_)
      refine V.aload_n X d_Cp_parameter_54 rfl ?_
      refine g_Cp_code X k_Cp_28 d_Cp_parameter_55 ?_
      refine g_Co_references X k_Cp_140 d_Cp_parameter_58 ?_
      refine V.iload_n X d_Cp_parameter_61 rfl ?_
      refine V.dup2 X d_Cp_parameter_62 rfl rfl ?_
      refine l_Co_references X (by first | omega | (dsimp only; omega) | (simp only [] at *; omega)) d_Cp_parameter_63 ?_
      refine V.iconst (v := nI 1) X d_Cp_parameter_64 (by decide +kernel) ?_
      refine V.iload_n X d_Cp_parameter_65 rfl ?_
      refine V.ishl X d_Cp_parameter_66 (shl_small hi3) ?_
      refine V.ior X d_Cp_parameter_67 (or_small (o2.2.2.2.2.1 q) hi3) ?_
      refine s_Co_references X (by first | omega | (dsimp only; omega) | (simp only [] at *; omega)) d_Cp_parameter_68 ?_
      refine V.aload_n X d_Cp_parameter_69 rfl ?_
      refine g_Cp_code X k_Cp_28 d_Cp_parameter_70 ?_
      refine g_Co_parameters X k_Cp_136 d_Cp_parameter_73 ?_
      refine V.iload_n X d_Cp_parameter_76 rfl ?_
      refine V.dup2 X d_Cp_parameter_77 rfl rfl ?_
      refine l_Co_parameters X (by first | omega | (dsimp only; omega) | (simp only [] at *; omega)) d_Cp_parameter_78 ?_
      refine V.iconst (v := nI 1) X d_Cp_parameter_79 (by decide +kernel) ?_
      refine V.iadd X d_Cp_parameter_80 (nI_add _ _) ?_
      refine s_Co_parameters X (by first | omega | (dsimp only; omega) | (simp only [] at *; omega)) d_Cp_parameter_81 ?_
      subst hres
      exact V.vret X d_Cp_parameter_82 rfl rfl
    · rw [if_pos h23] at hres
      refine V.aload_n X d_Cp_parameter_26 rfl ?_
      refine V.aload_n X d_Cp_parameter_27 rfl ?_
      refine g_Cp_tokens X k_Cp_12 d_Cp_parameter_28 ?_
      refine V.callV1 X (k_place (S := (adv S)) h t o1) Y_Tk_place k_Cp_70 3 rfl rfl rfl rfl rfl (Rok.lt (by omega)) d_Cp_parameter_31 ?_
      subst hres
      exact V.callVX X (c_Cp_refuse (S := (adv S)) h hlt) Y_Cp_refuse k_Cp_74 2 rfl rfl rfl rfl rfl (Rok.lt (by omega)) d_Cp_parameter_34 rfl rfl
  · first | rw [if_pos h7] at hres | rw [if_neg h7] at hres | skip
    refine V.callV1 X (k_acc_f (S := S) h t o (by decide) h7) Y_Tk_accept k_Cp_84 3 rfl rfl rfl rfl rfl (Rok.lt (by omega)) d_Cp_parameter_7 ?_
    refine V.istore_n (lv' := [(0, _), (1, _), (2, _)]) X d_Cp_parameter_10 (by decide) rfl ?_
    refine V.aload_n X d_Cp_parameter_11 rfl ?_
    refine g_Cp_code X k_Cp_28 d_Cp_parameter_12 ?_
    refine g_Co_parameters X k_Cp_136 d_Cp_parameter_15 ?_
    refine V.iload_n X d_Cp_parameter_18 rfl ?_
    refine l_Co_parameters X (by first | omega | (dsimp only; omega) | (simp only [] at *; omega)) d_Cp_parameter_19 ?_
    refine V.eqs (sk' := [.int (nI (S.2.2.2.2.2.2.1 q))]) rfl ?_
    refine V.istore_n (lv' := [(0, _), (1, _), (2, _), (3, _)]) X d_Cp_parameter_20 (by decide) rfl ?_
    refine V.iload_n X d_Cp_parameter_21 rfl ?_
    refine V.iconst (v := nI 3) X d_Cp_parameter_22 (by decide +kernel) ?_
    have hp3 := o.2.2.2.2.2 q
    refine V.cmpN_ne (tgt := 37) X d_Cp_parameter_23 (by decide) (by first | omega | (dsimp only; omega) | (simp only [] at *; omega)) (by first | omega | (dsimp only; omega) | (simp only [] at *; omega)) (fun h23 => ?_) (fun h23 => ?_)
    · rw [if_neg h23] at hres
      have hi3 : S.2.2.2.2.2.2.1 q < 3 := by have : S.2.2.2.2.2.2.1 q ≤ 3 := hp3; omega
      refine V.aload_n X d_Cp_parameter_37 rfl ?_
      refine V.iload_n X d_Cp_parameter_38 rfl ?_
      refine V.ifN_eq (tgt := 46) X d_Cp_parameter_39 (by decide) (by decide) (fun _ => ?_) (fun h => absurd rfl h)
      refine V.iconst (v := nI 0) X d_Cp_parameter_46 (by decide +kernel) ?_
      refine V.bd (val := vV) X hres (c_Cp_dec (S := S) h hlt t o (k := 0) (by decide) rfl) Y_Cp_declareName k_Cp_124 rfl rfl rfl rfl (Rok.lt (by omega)) d_Cp_parameter_47 ?_
      intro v3 S3 x3 hres
      have r3 := rl_dec (k := 0) t (by decide) S o
      rw [x3] at r3
      have o3 : Ok m S3 := r3.1
      have l3 : S3.2.1.2.2.2.2.2.2.1 = S.2.1.2.2.2.2.2.2.1 := r3.2 v3 rfl
      try dsimp only at hres
      refine V.iload_n X d_Cp_parameter_50 rfl ?_
      refine V.ifN_eq (tgt := 69) X d_Cp_parameter_51 (by decide) (by decide) (fun _ => ?_) (fun h => absurd rfl h)
      refine V.aload_n X d_Cp_parameter_69 rfl ?_
      refine g_Cp_code X k_Cp_28 d_Cp_parameter_70 ?_
      refine g_Co_parameters X k_Cp_136 d_Cp_parameter_73 ?_
      refine V.iload_n X d_Cp_parameter_76 rfl ?_
      refine V.dup2 X d_Cp_parameter_77 rfl rfl ?_
      refine l_Co_parameters X (by first | omega | (dsimp only; omega) | (simp only [] at *; omega)) d_Cp_parameter_78 ?_
      refine V.iconst (v := nI 1) X d_Cp_parameter_79 (by decide +kernel) ?_
      refine V.iadd X d_Cp_parameter_80 (nI_add _ _) ?_
      refine s_Co_parameters X (by first | omega | (dsimp only; omega) | (simp only [] at *; omega)) d_Cp_parameter_81 ?_
      subst hres
      exact V.vret X d_Cp_parameter_82 rfl rfl
    · rw [if_pos h23] at hres
      refine V.aload_n X d_Cp_parameter_26 rfl ?_
      refine V.aload_n X d_Cp_parameter_27 rfl ?_
      refine g_Cp_tokens X k_Cp_12 d_Cp_parameter_28 ?_
      refine V.callV1 X (k_place (S := S) h t o) Y_Tk_place k_Cp_70 3 rfl rfl rfl rfl rfl (Rok.lt (by omega)) d_Cp_parameter_31 ?_
      subst hres
      exact V.callVX X (c_Cp_refuse (S := S) h hlt) Y_Cp_refuse k_Cp_74 2 rfl rfl rfl rfl rfl (Rok.lt (by omega)) d_Cp_parameter_34 rfl rfl
set_option maxHeartbeats 4000000 in
set_option maxRecDepth 100000 in
theorem c_Cp_pars {l : Launch} {z : Zt} {a u w : Nat → Nat} {P : Pm} {F : Int32} {T : Tk} {m : Nat} {D : Co} {M : Mc} {S : CS} {Rr : CR} (h : Nat) (hlt : l.stackTraces = false) (t : TkOk T m) (o : Ok m S) {q : Nat} (hq : q < 6) (hres : cp_pars T q S = Rr) : XC l (Gz z) (h + 4) y_Cp_parameters b_Cp_parameters 3 none [.ref (a 2), .int (nI q)] (Wc z a u w P F T D M S) (oc vV Rr.1) (Wr z a u w P F T D M Rr) := by
  rw [cp_pars] at hres
  refine XC.ofV (by decide +kernel) rfl ?_
  intro p e s m9 below meth c X hnm
  refine V.lvs (lv' := [(0, .ref (a 2)), (1, .int (nI q))]) rfl ?_
  refine V.aload_n X d_Cp_parameters_0 rfl ?_
  refine V.iload_n X d_Cp_parameters_1 rfl ?_
  refine V.bd (val := vV) X hres (c_Cp_par (S := S) h hlt t o hq rfl) Y_Cp_parameter k_Cp_157 rfl rfl rfl rfl (Rok.lt (by omega)) d_Cp_parameters_2 ?_
  intro v1 S1 x1 hres
  have r1 := rl_par (q := q) t S o
  rw [x1] at r1
  have o1 : Ok m S1 := r1.1
  have l1 : S1.2.1.2.2.2.2.2.2.1 = S.2.1.2.2.2.2.2.2.1 := r1.2 v1 rfl
  try dsimp only at hres
  refine V.iconst (v := nI 0) X d_Cp_parameters_5 (by decide +kernel) ?_
  refine V.istore_n (lv' := [(0, _), (1, _), (2, _)]) X d_Cp_parameters_6 (by decide) rfl ?_
  suffices loop7 : ∀ (n i : Nat) (S : CS), i + n = 150 → Ok m S → bd (cp_rep T 12 (cp_par T q) n) (fun _ => cp_expect T 14) S = Rr → V p l e (Rm (h + 4)) s m9 ([.ref (a 2), .int (nI q)] : List Value).toArray below meth c (Gz z) 3 0 0 (XE below (Gz z) (oc vV Rr.1) (Wr z a u w P F T D M Rr) ([.ref (a 2), .int (nI q)] : List Value).toArray s) (Wc z a u w P F T D M S) 7 [(0, .ref (a 2)), (1, .int (nI q)), (2, .int (nI i))] [] from loop7 150 0 _ rfl o1 hres
  intro n
  induction n with
  | zero =>
    intro i S hi o hres
    rw [bd_rep_0] at hres
    refine V.iload_n X d_Cp_parameters_7 rfl ?_
    refine V.sipush (v := nI 150) X d_Cp_parameters_8 (by decide +kernel) ?_
    refine V.cmpN_ge (tgt := 38) X d_Cp_parameters_11 (by decide) (by first | omega | (dsimp only; omega) | (simp only [] at *; omega)) (by first | omega | (dsimp only; omega) | (simp only [] at *; omega)) (fun h11 => ?_) (fun h11 => absurd h11 (by omega))
    refine V.aload_n X d_Cp_parameters_38 rfl ?_
    refine V.getK X 14 (by decide) k_Cp_160 d_Cp_parameters_39 ?_
    refine V.bd (val := vV) X (bd_tail hres) (c_Cp_expect (S := S) h hlt t o (q := 14) (by decide) rfl) Y_Cp_expect k_Cp_59 rfl rfl rfl rfl (Rok.lt (by omega)) d_Cp_parameters_42 ?_
    intro v2 S2 x2 hres
    have r2 := rs_expect (q := 14) t (by decide) S
    rw [x2] at r2
    have o2 : Ok m S2 := r2.1 o
    try dsimp only at hres
    subst hres
    exact V.vret X d_Cp_parameters_45 rfl rfl
  | succ n ih =>
    intro i S hi o hres
    refine V.iload_n X d_Cp_parameters_7 rfl ?_
    refine V.sipush (v := nI 150) X d_Cp_parameters_8 (by decide +kernel) ?_
    refine V.cmpN_ge (tgt := 38) X d_Cp_parameters_11 (by decide) (by first | omega | (dsimp only; omega) | (simp only [] at *; omega)) (by first | omega | (dsimp only; omega) | (simp only [] at *; omega)) (fun h11 => absurd h11 (by omega)) (fun h11 => ?_)
    refine V.aload_n X d_Cp_parameters_14 rfl ?_
    refine g_Cp_tokens X k_Cp_12 d_Cp_parameters_15 ?_
    refine V.getK X 12 (by decide) k_Cp_127 d_Cp_parameters_18 ?_
    by_cases h21 : kd T S.1 = 12
    · rw [bd_rep_t h21] at hres
      refine V.callV1 X (k_acc_t (S := S) h t o (by decide) h21) Y_Tk_accept k_Cp_84 3 rfl rfl rfl rfl rfl (Rok.lt (by omega)) d_Cp_parameters_21 ?_
      have o3 := ok_adv (S := S) t o h21 (by decide)
      refine V.ifN_eq (tgt := 38) X d_Cp_parameters_24 (by decide) (by decide) (fun h => absurd h (by decide)) (fun _ => ?_)
      refine V.aload_n X d_Cp_parameters_27 rfl ?_
      refine V.iload_n X d_Cp_parameters_28 rfl ?_
      refine V.bd (val := vV) X hres (c_Cp_par (S := (adv S)) h hlt t o3 hq rfl) Y_Cp_parameter k_Cp_157 rfl rfl rfl rfl (Rok.lt (by omega)) d_Cp_parameters_29 ?_
      intro v4 S4 x4 hres
      have r4 := rl_par (q := q) t (adv S) o3
      rw [x4] at r4
      have o4 : Ok m S4 := r4.1
      have l4 : S4.2.1.2.2.2.2.2.2.1 = (adv S).2.1.2.2.2.2.2.2.1 := r4.2 v4 rfl
      try dsimp only at hres
      refine V.iinc (lv' := [(0, _), (1, _), (2, _)]) X d_Cp_parameters_32 rfl (show _ + nI 1 = _ from nI_add _ 1) (by decide) rfl ?_
      refine V.goto (tgt := 7) X d_Cp_parameters_35 (by decide) ?_
      exact ih _ _ (by omega) o4 hres
    · rw [bd_rep_f h21] at hres
      refine V.callV1 X (k_acc_f (S := S) h t o (by decide) h21) Y_Tk_accept k_Cp_84 3 rfl rfl rfl rfl rfl (Rok.lt (by omega)) d_Cp_parameters_21 ?_
      refine V.ifN_eq (tgt := 38) X d_Cp_parameters_24 (by decide) (by decide) (fun _ => ?_) (fun h => absurd rfl h)
      refine V.aload_n X d_Cp_parameters_38 rfl ?_
      refine V.getK X 14 (by decide) k_Cp_160 d_Cp_parameters_39 ?_
      refine V.bd (val := vV) X (bd_tail hres) (c_Cp_expect (S := S) h hlt t o (q := 14) (by decide) rfl) Y_Cp_expect k_Cp_59 rfl rfl rfl rfl (Rok.lt (by omega)) d_Cp_parameters_42 ?_
      intro v5 S5 x5 hres
      have r5 := rs_expect (q := 14) t (by decide) S
      rw [x5] at r5
      have o5 : Ok m S5 := r5.1 o
      try dsimp only at hres
      subst hres
      exact V.vret X d_Cp_parameters_45 rfl rfl
set_option maxHeartbeats 4000000 in
set_option maxRecDepth 100000 in
theorem c_Cp_proc0 {l : Launch} {z : Zt} {a u w : Nat → Nat} {P : Pm} {F : Int32} {T : Tk} {m : Nat} {D : Co} {M : Mc} {S : CS} {Rr : CR} (h : Nat) (hlt : l.stackTraces = false) (t : TkOk T m) (o : Ok m S)  (hres : cp_no T S = Rr) : XC l (Gz z) (h + 1) y_Cp_procedure b_Cp_procedure 3 none [.ref (a 2), .int (nI 4)] (Wc z a u w P F T D M S) (oc vV Rr.1) (Wr z a u w P F T D M Rr) := by
  refine XC.ofV (by decide +kernel) rfl ?_
  intro p e s m9 below meth c X hnm
  refine V.lvs (lv' := [(0, .ref (a 2)), (1, .int (nI 4))]) rfl ?_
  refine V.iload_n X d_Cp_procedure_0 rfl ?_
  refine V.iconst (v := nI 4) X d_Cp_procedure_1 (by decide +kernel) ?_
  refine V.cmpN_ne (tgt := 16) X d_Cp_procedure_2 (by decide) (by first | omega | (dsimp only; omega) | (simp only [] at *; omega)) (by first | omega | (dsimp only; omega) | (simp only [] at *; omega)) (fun h2 => absurd h2 (fun q => q rfl)) (fun h2 => ?_)
  refine V.aload_n X d_Cp_procedure_5 rfl ?_
  refine V.aload_n X d_Cp_procedure_6 rfl ?_
  refine g_Cp_tokens X k_Cp_12 d_Cp_procedure_7 ?_
  refine V.callV1 X (k_place (S := S) h t o) Y_Tk_place k_Cp_70 3 rfl rfl rfl rfl rfl (Rok.lt (by omega)) d_Cp_procedure_10 ?_
  subst hres
  exact V.callVX X (c_Cp_refuse (S := S) h hlt) Y_Cp_refuse k_Cp_74 2 rfl rfl rfl rfl rfl (Rok.lt (by omega)) d_Cp_procedure_13 rfl rfl
set_option maxHeartbeats 4000000 in
set_option maxRecDepth 100000 in
theorem c_Cp_procS {l : Launch} {z : Zt} {a u w : Nat → Nat} {P : Pm} {F : Int32} {T : Tk} {m : Nat} {D : Co} {M : Mc} {S : CS} {Rr : CR} (h : Nat) (hlt : l.stackTraces = false) (t : TkOk T m) (o : Ok m S) {n d k : Nat} (hk : 50 ≤ k) (hd : d + n + 1 = 4) (hlev : S.2.1.2.2.2.2.2.2.1 + (n + 1) = 3) (h1 : kd T S.1 = 1) (hB : ∀ (S : CS) (Rr : CR), S.2.1.2.2.2.2.2.2.1 + n = 3 → Ok m S → cp_block T n S = Rr → XC l (Gz z) (h + k) y_Cp_block b_Cp_block 3 (some .int) [.ref (a 2), .int (nI (d + 1))] (Wc z a u w P F T D M S) (oc vI Rr.1) (Wr z a u w P F T D M Rr)) (hres : cp_pc T (cp_block T n) S = Rr) : XC l (Gz z) (h + k + 1) y_Cp_procedure b_Cp_procedure 3 none [.ref (a 2), .int (nI d)] (Wc z a u w P F T D M S) (oc vV Rr.1) (Wr z a u w P F T D M Rr) := by
  rw [cp_pc] at hres
  refine XC.ofV (by decide +kernel) rfl ?_
  intro p e s m9 below meth c X hnm
  refine V.lvs (lv' := [(0, .ref (a 2)), (1, .int (nI d))]) rfl ?_
  refine V.iload_n X d_Cp_procedure_0 rfl ?_
  refine V.iconst (v := nI 4) X d_Cp_procedure_1 (by decide +kernel) ?_
  refine V.cmpN_ne (tgt := 16) X d_Cp_procedure_2 (by decide) (by first | omega | (dsimp only; omega) | (simp only [] at *; omega)) (by first | omega | (dsimp only; omega) | (simp only [] at *; omega)) (fun h2 => ?_) (fun h2 => absurd h2 (by omega))
  refine V.aload_n X d_Cp_procedure_16 rfl ?_
  refine g_Cp_tokens X k_Cp_12 d_Cp_procedure_17 ?_
  refine V.callV0 X (k_advance (S := S) h t o) Y_Tk_advance k_Cp_99 3 rfl rfl rfl rfl rfl (Rok.lt (by omega)) d_Cp_procedure_20 ?_
  have o1 := ok_adv (S := S) t o h1 (by decide)
  refine V.aload_n X d_Cp_procedure_23 rfl ?_
  refine V.iconst (v := nI 2) X d_Cp_procedure_24 (by decide +kernel) ?_
  refine V.bd (val := vV) X hres (c_Cp_dec (S := (adv S)) h hlt t o1 (k := 2) (by decide) rfl) Y_Cp_declareName k_Cp_124 rfl rfl rfl rfl (Rok.lt (by omega)) d_Cp_procedure_25 ?_
  intro v2 S2 x2 hres
  have r2 := rl_dec (k := 2) t (by decide) (adv S) o1
  rw [x2] at r2
  have o2 : Ok m S2 := r2.1
  have l2 : S2.2.1.2.2.2.2.2.2.1 = (adv S).2.1.2.2.2.2.2.2.1 := r2.2 v2 rfl
  try dsimp only at hres
  have hp9 := dec_proc x2
  have hp6 : S2.2.1.2.2.2.2.2.2.2.2 ≤ 6 := o2.2.1.2.2.1
  refine V.aload_n X d_Cp_procedure_28 rfl ?_
  refine g_Cp_names X k_Cp_21 d_Cp_procedure_29 ?_
  refine V.callV1 X (k_lastProcedure (m := m) (S := S2) h hp9) Y_Nm_lastProcedure k_Cp_133 7 rfl rfl rfl rfl rfl (Rok.lt (by omega)) d_Cp_procedure_32 ?_
  refine V.eqs (sk' := [.int (nI (S2.2.1.2.2.2.2.2.2.2.2 - 1))]) rfl ?_
  refine V.istore_n (lv' := [(0, _), (1, _), (2, _)]) X d_Cp_procedure_35 (by decide) rfl ?_
  refine V.aload_n X d_Cp_procedure_36 rfl ?_
  refine g_Cp_code X k_Cp_28 d_Cp_procedure_37 ?_
  refine g_Co_parameters X k_Cp_136 d_Cp_procedure_40 ?_
  refine V.iload_n X d_Cp_procedure_43 rfl ?_
  refine V.iconst (v := nI 0) X d_Cp_procedure_44 (by decide +kernel) ?_
  refine s_Co_parameters X (by first | omega | (dsimp only; omega) | (simp only [] at *; omega)) d_Cp_procedure_45 ?_
  refine V.aload_n X d_Cp_procedure_46 rfl ?_
  refine g_Cp_code X k_Cp_28 d_Cp_procedure_47 ?_
  refine g_Co_references X k_Cp_140 d_Cp_procedure_50 ?_
  refine V.iload_n X d_Cp_procedure_53 rfl ?_
  refine V.iconst (v := nI 0) X d_Cp_procedure_54 (by decide +kernel) ?_
  refine s_Co_references X (by first | omega | (dsimp only; omega) | (simp only [] at *; omega)) d_Cp_procedure_55 ?_
  refine V.aload_n X d_Cp_procedure_56 rfl ?_
  refine g_Cp_names X k_Cp_21 d_Cp_procedure_57 ?_
  refine V.callV0 X (c_Nm_open h (by have := o2.2.1.2.2.2.1; omega)) Y_Nm_open k_Cp_143 7 rfl rfl rfl rfl rfl (Rok.lt (by omega)) d_Cp_procedure_60 ?_
  refine V.eqw (ws' := Wc z a u w P F T D M (cp_pOpen S2)) rfl ?_
  have oq := ok_pOpen o2
  have l9 : S2.2.1.2.2.2.2.2.2.1 = S.2.1.2.2.2.2.2.2.1 := l2
  have lq : (cp_pOpen S2).2.1.2.2.2.2.2.2.1 = S.2.1.2.2.2.2.2.2.1 + 1 := (nm_level_open (by omega)).trans (by rw [l9])
  refine V.aload_n X d_Cp_procedure_63 rfl ?_
  refine g_Cp_tokens X k_Cp_12 d_Cp_procedure_64 ?_
  refine V.getK X 13 (by decide) k_Cp_146 d_Cp_procedure_67 ?_
  by_cases h70 : kd T (cp_pOpen S2).1 = 13
  · rw [bd_pHead_t h70] at hres
    refine V.callV1 X (k_acc_t (S := (cp_pOpen S2)) h t oq (by decide) h70) Y_Tk_accept k_Cp_84 3 rfl rfl rfl rfl rfl (Rok.lt (by omega)) d_Cp_procedure_70 ?_
    have o3 := ok_adv (S := (cp_pOpen S2)) t oq h70 (by decide)
    refine V.ifN_eq (tgt := 81) X d_Cp_procedure_73 (by decide) (by decide) (fun h => absurd h (by decide)) (fun _ => ?_)
    refine V.aload_n X d_Cp_procedure_76 rfl ?_
    refine V.iload_n X d_Cp_procedure_77 rfl ?_
    refine V.bd (val := vV) X hres (c_Cp_pars (S := (adv (cp_pOpen S2))) h hlt t o3 (by omega) rfl) Y_Cp_parameters k_Cp_149 rfl rfl rfl rfl (Rok.lt (by omega)) d_Cp_procedure_78 ?_
    intro v4 S4 x4 hres
    have r4 := rl_pars (q := S2.2.1.2.2.2.2.2.2.2.2 - 1) t (adv (cp_pOpen S2)) o3
    rw [x4] at r4
    have o4 : Ok m S4 := r4.1
    have l4 : S4.2.1.2.2.2.2.2.2.1 = (adv (cp_pOpen S2)).2.1.2.2.2.2.2.2.1 := r4.2 v4 rfl
    try dsimp only at hres
    have ly : S4.2.1.2.2.2.2.2.2.1 = S.2.1.2.2.2.2.2.2.1 + 1 := l4.trans lq
    refine V.aload_n X d_Cp_procedure_81 rfl ?_
    refine V.getK X 11 (by decide) k_Cp_130 d_Cp_procedure_82 ?_
    refine V.bd (val := vV) X hres (c_Cp_expect (S := S4) h hlt t o4 (q := 11) (by decide) rfl) Y_Cp_expect k_Cp_59 rfl rfl rfl rfl (Rok.lt (by omega)) d_Cp_procedure_85 ?_
    intro v5 S5 x5 hres
    have r5 := rs_expect (q := 11) t (by decide) S4
    rw [x5] at r5
    have o5 : Ok m S5 := r5.1 o4
    try dsimp only at hres
    have lz : S5.2.1.2.2.2.2.2.2.1 + n = 3 := by rw [show S5.2.1 = S4.2.1 from r5.2]; omega
    refine V.aload_n X d_Cp_procedure_88 rfl ?_
    refine g_Cp_code X k_Cp_28 d_Cp_procedure_89 ?_
    refine g_Co_entries X k_Cp_151 d_Cp_procedure_92 ?_
    refine V.iload_n X d_Cp_procedure_95 rfl ?_
    refine V.aload_n X d_Cp_procedure_96 rfl ?_
    refine V.iload_n X d_Cp_procedure_97 rfl ?_
    refine V.iconst (v := nI 1) X d_Cp_procedure_98 (by decide +kernel) ?_
    refine V.iadd X d_Cp_procedure_99 (nI_add _ _) ?_
    refine V.bd (val := vI) X hres (hB S5 _ lz o5 rfl) Y_Cp_block k_Cp_46 rfl rfl rfl rfl (Rok.lt (by omega)) d_Cp_procedure_100 ?_
    intro v6 S6 x6 hres
    have r6 := rl_block t n S5 lz o5
    rw [x6] at r6
    have o6 : Ok m S6 := r6.1
    have l6 : S6.2.1.2.2.2.2.2.2.1 = S5.2.1.2.2.2.2.2.2.1 := r6.2 v6 rfl
    try dsimp only at hres
    have lw : 1 ≤ S6.2.1.2.2.2.2.2.2.1 := by omega
    refine s_Co_entries X (by first | omega | (dsimp only; omega) | (simp only [] at *; omega)) d_Cp_procedure_103 ?_
    refine V.aload_n X d_Cp_procedure_104 rfl ?_
    refine g_Cp_names X k_Cp_21 d_Cp_procedure_105 ?_
    have h18 : S6.2.1.2.2.2.2.2.1 ≤ 18 := by have h1 := o6.2.1.1; have h2 := o6.2.1.2.1; have h3 := o6.2.1.2.2.1; omega
    refine V.callV0 X (c_Nm_close h h18 (fun i => by have := o6.2.1.2.2.2.2.1 i; omega) lw (by have := o6.2.1.2.2.2.1; omega)) Y_Nm_close k_Cp_154 7 rfl rfl rfl rfl rfl (Rok.lt (by omega)) d_Cp_procedure_108 ?_
    refine V.eqw (ws' := Wc z a u w P F T D M (cp_pEntry (S2.2.1.2.2.2.2.2.2.2.2 - 1) v6 S6)) rfl ?_
    have oe : Ok m (cp_pEntry (S2.2.1.2.2.2.2.2.2.2.2 - 1) v6 S6) := ok_pEntry o6
    refine V.aload_n X d_Cp_procedure_111 rfl ?_
    refine V.getK X 11 (by decide) k_Cp_130 d_Cp_procedure_112 ?_
    refine V.bd (val := vV) X (bd_tail hres) (c_Cp_expect (S := (cp_pEntry (S2.2.1.2.2.2.2.2.2.2.2 - 1) v6 S6)) h hlt t oe (q := 11) (by decide) rfl) Y_Cp_expect k_Cp_59 rfl rfl rfl rfl (Rok.lt (by omega)) d_Cp_procedure_115 ?_
    intro v7 S7 x7 hres
    have r7 := rs_expect (q := 11) t (by decide) (cp_pEntry (S2.2.1.2.2.2.2.2.2.2.2 - 1) v6 S6)
    rw [x7] at r7
    have o7 : Ok m S7 := r7.1 oe
    try dsimp only at hres
    subst hres
    exact V.vret X d_Cp_procedure_118 rfl rfl
  · rw [bd_pHead_f h70] at hres
    have ly := lq
    refine V.callV1 X (k_acc_f (S := (cp_pOpen S2)) h t oq (by decide) h70) Y_Tk_accept k_Cp_84 3 rfl rfl rfl rfl rfl (Rok.lt (by omega)) d_Cp_procedure_70 ?_
    refine V.ifN_eq (tgt := 81) X d_Cp_procedure_73 (by decide) (by decide) (fun _ => ?_) (fun h => absurd rfl h)
    refine V.aload_n X d_Cp_procedure_81 rfl ?_
    refine V.getK X 11 (by decide) k_Cp_130 d_Cp_procedure_82 ?_
    refine V.bd (val := vV) X hres (c_Cp_expect (S := (cp_pOpen S2)) h hlt t oq (q := 11) (by decide) rfl) Y_Cp_expect k_Cp_59 rfl rfl rfl rfl (Rok.lt (by omega)) d_Cp_procedure_85 ?_
    intro v8 S8 x8 hres
    have r8 := rs_expect (q := 11) t (by decide) (cp_pOpen S2)
    rw [x8] at r8
    have o8 : Ok m S8 := r8.1 oq
    try dsimp only at hres
    have lz : S8.2.1.2.2.2.2.2.2.1 + n = 3 := by rw [show S8.2.1 = (cp_pOpen S2).2.1 from r8.2]; omega
    refine V.aload_n X d_Cp_procedure_88 rfl ?_
    refine g_Cp_code X k_Cp_28 d_Cp_procedure_89 ?_
    refine g_Co_entries X k_Cp_151 d_Cp_procedure_92 ?_
    refine V.iload_n X d_Cp_procedure_95 rfl ?_
    refine V.aload_n X d_Cp_procedure_96 rfl ?_
    refine V.iload_n X d_Cp_procedure_97 rfl ?_
    refine V.iconst (v := nI 1) X d_Cp_procedure_98 (by decide +kernel) ?_
    refine V.iadd X d_Cp_procedure_99 (nI_add _ _) ?_
    refine V.bd (val := vI) X hres (hB S8 _ lz o8 rfl) Y_Cp_block k_Cp_46 rfl rfl rfl rfl (Rok.lt (by omega)) d_Cp_procedure_100 ?_
    intro v9 S9 x9 hres
    have r9 := rl_block t n S8 lz o8
    rw [x9] at r9
    have o9 : Ok m S9 := r9.1
    have l9 : S9.2.1.2.2.2.2.2.2.1 = S8.2.1.2.2.2.2.2.2.1 := r9.2 v9 rfl
    try dsimp only at hres
    have lw : 1 ≤ S9.2.1.2.2.2.2.2.2.1 := by omega
    refine s_Co_entries X (by first | omega | (dsimp only; omega) | (simp only [] at *; omega)) d_Cp_procedure_103 ?_
    refine V.aload_n X d_Cp_procedure_104 rfl ?_
    refine g_Cp_names X k_Cp_21 d_Cp_procedure_105 ?_
    have h18 : S9.2.1.2.2.2.2.2.1 ≤ 18 := by have h1 := o9.2.1.1; have h2 := o9.2.1.2.1; have h3 := o9.2.1.2.2.1; omega
    refine V.callV0 X (c_Nm_close h h18 (fun i => by have := o9.2.1.2.2.2.2.1 i; omega) lw (by have := o9.2.1.2.2.2.1; omega)) Y_Nm_close k_Cp_154 7 rfl rfl rfl rfl rfl (Rok.lt (by omega)) d_Cp_procedure_108 ?_
    refine V.eqw (ws' := Wc z a u w P F T D M (cp_pEntry (S2.2.1.2.2.2.2.2.2.2.2 - 1) v9 S9)) rfl ?_
    have oe : Ok m (cp_pEntry (S2.2.1.2.2.2.2.2.2.2.2 - 1) v9 S9) := ok_pEntry o9
    refine V.aload_n X d_Cp_procedure_111 rfl ?_
    refine V.getK X 11 (by decide) k_Cp_130 d_Cp_procedure_112 ?_
    refine V.bd (val := vV) X (bd_tail hres) (c_Cp_expect (S := (cp_pEntry (S2.2.1.2.2.2.2.2.2.2.2 - 1) v9 S9)) h hlt t oe (q := 11) (by decide) rfl) Y_Cp_expect k_Cp_59 rfl rfl rfl rfl (Rok.lt (by omega)) d_Cp_procedure_115 ?_
    intro v10 S10 x10 hres
    have r10 := rs_expect (q := 11) t (by decide) (cp_pEntry (S2.2.1.2.2.2.2.2.2.2.2 - 1) v9 S9)
    rw [x10] at r10
    have o10 : Ok m S10 := r10.1 oe
    try dsimp only at hres
    subst hres
    exact V.vret X d_Cp_procedure_118 rfl rfl
set_option maxHeartbeats 4000000 in
set_option maxRecDepth 100000 in
theorem c_Cp_bk {l : Launch} {z : Zt} {a u w : Nat → Nat} {P : Pm} {F : Int32} {T : Tk} {m : Nat} {D : Co} {M : Mc} {S : CS} {Rr : CR} (h : Nat) (hlt : l.stackTraces = false) (t : TkOk T m) (o : Ok m S) {n d k : Nat} (hk : 50 ≤ k) (hlev : S.2.1.2.2.2.2.2.2.1 + n = 3) (hP : ∀ (S : CS) (Rr : CR), kd T S.1 = 1 → S.2.1.2.2.2.2.2.2.1 + n = 3 → Ok m S → cp_proc T n S = Rr → XC l (Gz z) (h + k) y_Cp_procedure b_Cp_procedure 3 none [.ref (a 2), .int (nI d)] (Wc z a u w P F T D M S) (oc vV Rr.1) (Wr z a u w P F T D M Rr)) (hres : cp_bk T (cp_proc T n) S = Rr) : XC l (Gz z) (h + k + 1) y_Cp_block b_Cp_block 3 (some .int) [.ref (a 2), .int (nI d)] (Wc z a u w P F T D M S) (oc vI Rr.1) (Wr z a u w P F T D M Rr) := by
  rw [cp_bk] at hres
  refine XC.ofV (by decide +kernel) rfl ?_
  intro p e s m9 below meth c X hnm
  refine V.lvs (lv' := [(0, .ref (a 2)), (1, .int (nI d))]) rfl ?_
  refine V.aload_n X d_Cp_block_0 rfl ?_
  refine g_Cp_tokens X k_Cp_12 d_Cp_block_1 ?_
  refine V.getK X 0 (by decide) k_Cp_102 d_Cp_block_4 ?_
  by_cases h7 : kd T S.1 = 0
  · first | rw [if_pos h7] at hres | rw [if_neg h7] at hres | skip
    refine V.callV1 X (k_acc_t (S := S) h t o (by decide) h7) Y_Tk_accept k_Cp_84 3 rfl rfl rfl rfl rfl (Rok.lt (by omega)) d_Cp_block_7 ?_
    have o1 := ok_adv (S := S) t o h7 (by decide)
    refine V.ifN_eq (tgt := 17) X d_Cp_block_10 (by decide) (by decide) (fun h => absurd h (by decide)) (fun _ => ?_)
    refine V.aload_n X d_Cp_block_13 rfl ?_
    refine V.bd (val := vV) X hres (c_Cp_vars (S := (adv S)) h hlt t o1 rfl) Y_Cp_variables k_Cp_105 rfl rfl rfl rfl (Rok.lt (by omega)) d_Cp_block_14 ?_
    intro v2 S2 x2 hres
    have r2 := rl_vars t (adv S) o1
    rw [x2] at r2
    have o2 : Ok m S2 := r2.1
    have l2 : S2.2.1.2.2.2.2.2.2.1 = (adv S).2.1.2.2.2.2.2.2.1 := r2.2 v2 rfl
    try dsimp only at hres
    have hlev : S2.2.1.2.2.2.2.2.2.1 + n = 3 := by rw [show S2.2.1.2.2.2.2.2.2.1 = S.2.1.2.2.2.2.2.2.1 from l2]; exact hlev
    refine V.iconst (v := nI 0) X d_Cp_block_17 (by decide +kernel) ?_
    refine V.istore_n (lv' := [(0, _), (1, _), (2, _)]) X d_Cp_block_18 (by decide) rfl ?_
    suffices loop19 : ∀ (k9 i : Nat) (S : CS), i + k9 = 150 → Ok m S → S.2.1.2.2.2.2.2.2.1 + n = 3 → bd (cp_ps T (cp_proc T n) k9) (fun _ => cp_body T) S = Rr → V p l e (Rm (h + k + 1)) s m9 ([.ref (a 2), .int (nI d)] : List Value).toArray below meth c (Gz z) 3 0 0 (XE below (Gz z) (oc vI Rr.1) (Wr z a u w P F T D M Rr) ([.ref (a 2), .int (nI d)] : List Value).toArray s) (Wc z a u w P F T D M S) 19 [(0, .ref (a 2)), (1, .int (nI d)), (2, .int (nI i))] [] from loop19 150 0 _ rfl o2 hlev hres
    intro k9
    induction k9 with
    | zero =>
      intro i S hi o hlev hres
      rw [bd_ps_0] at hres
      refine V.iload_n X d_Cp_block_19 rfl ?_
      refine V.sipush (v := nI 150) X d_Cp_block_20 (by decide +kernel) ?_
      refine V.cmpN_ge (tgt := 50) X d_Cp_block_23 (by decide) (by first | omega | (dsimp only; omega) | (simp only [] at *; omega)) (by first | omega | (dsimp only; omega) | (simp only [] at *; omega)) (fun h23 => ?_) (fun h23 => absurd h23 (by omega))
      try dsimp only at hres
      rw [cp_body] at hres
      refine V.aload_n X d_Cp_block_50 rfl ?_
      refine g_Cp_code X k_Cp_28 d_Cp_block_51 ?_
      refine g_Co_size X k_Cp_43 d_Cp_block_54 ?_
      refine V.istore_n (lv' := [(0, _), (1, _), (2, _)]) X d_Cp_block_57 (by decide) rfl ?_
      refine V.aload_n X d_Cp_block_58 rfl ?_
      refine V.getK X 2 (by decide) k_Cp_114 d_Cp_block_59 ?_
      refine V.bd (val := vV) X hres (c_Cp_expect (S := S) h hlt t o (q := 2) (by decide) rfl) Y_Cp_expect k_Cp_59 rfl rfl rfl rfl (Rok.lt (by omega)) d_Cp_block_62 ?_
      intro v3 S3 x3 hres
      have r3 := rs_expect (q := 2) t (by decide) S
      rw [x3] at r3
      have o3 : Ok m S3 := r3.1 o
      try dsimp only at hres
      refine V.aload_n X d_Cp_block_65 rfl ?_
      refine V.iconst (v := nI 0) X d_Cp_block_66 (by decide +kernel) ?_
      refine V.bd (val := vV) X hres (c_Cp_stmts8 (S := S3) h hlt t o3 rfl) Y_Cp_statements k_Cp_117 rfl rfl rfl rfl (Rok.lt (by omega)) d_Cp_block_67 ?_
      intro v4 S4 x4 hres
      have r4 := rs_stmts t (rs_stm t 8) S3
      rw [x4] at r4
      have o4 : Ok m S4 := r4.1 o3
      try dsimp only at hres
      refine V.aload_n X d_Cp_block_70 rfl ?_
      refine g_Cp_code X k_Cp_28 d_Cp_block_71 ?_
      refine V.bipush (v := nI 19) X d_Cp_block_74 (by decide +kernel) ?_
      refine V.iconst (v := nI 0) X d_Cp_block_76 (by decide +kernel) ?_
      refine V.iconst (v := nI 0) X d_Cp_block_77 (by decide +kernel) ?_
      refine V.callV1 X (k_add (S := S4) h o4) Y_Co_add k_Cp_120 19 rfl rfl rfl rfl rfl (Rok.lt (by omega)) d_Cp_block_78 ?_
      have o5 : Ok m (cadd S4 19 0 0) := ok_add o4 (by decide)
      refine V.pop X d_Cp_block_81 rfl ?_
      refine V.iload_n X d_Cp_block_82 rfl ?_
      subst hres
      exact V.iret X d_Cp_block_83 rfl rfl
    | succ k9 ih =>
      intro i S hi o hlev hres
      refine V.iload_n X d_Cp_block_19 rfl ?_
      refine V.sipush (v := nI 150) X d_Cp_block_20 (by decide +kernel) ?_
      refine V.cmpN_ge (tgt := 50) X d_Cp_block_23 (by decide) (by first | omega | (dsimp only; omega) | (simp only [] at *; omega)) (by first | omega | (dsimp only; omega) | (simp only [] at *; omega)) (fun h23 => absurd h23 (by omega)) (fun h23 => ?_)
      refine V.aload_n X d_Cp_block_26 rfl ?_
      refine g_Cp_tokens X k_Cp_12 d_Cp_block_27 ?_
      refine V.callV1 X (k_kind (S := S) h t o) Y_Tk_kind k_Cp_63 3 rfl rfl rfl rfl rfl (Rok.lt (by omega)) d_Cp_block_30 ?_
      refine V.getK X 1 (by decide) k_Cp_108 d_Cp_block_33 ?_
      refine V.acmp_ne (tgt := 50) X d_Cp_block_36 (by decide) (fun h36 => ?_) (fun h36 => ?_)
      · replace h36 : ¬ kd T S.1 = 1 := fun q => h36 (by rw [q])
        rw [bd_ps_f h36] at hres
        try dsimp only at hres
        rw [cp_body] at hres
        refine V.aload_n X d_Cp_block_50 rfl ?_
        refine g_Cp_code X k_Cp_28 d_Cp_block_51 ?_
        refine g_Co_size X k_Cp_43 d_Cp_block_54 ?_
        refine V.istore_n (lv' := [(0, _), (1, _), (2, _)]) X d_Cp_block_57 (by decide) rfl ?_
        refine V.aload_n X d_Cp_block_58 rfl ?_
        refine V.getK X 2 (by decide) k_Cp_114 d_Cp_block_59 ?_
        refine V.bd (val := vV) X hres (c_Cp_expect (S := S) h hlt t o (q := 2) (by decide) rfl) Y_Cp_expect k_Cp_59 rfl rfl rfl rfl (Rok.lt (by omega)) d_Cp_block_62 ?_
        intro v6 S6 x6 hres
        have r6 := rs_expect (q := 2) t (by decide) S
        rw [x6] at r6
        have o6 : Ok m S6 := r6.1 o
        try dsimp only at hres
        refine V.aload_n X d_Cp_block_65 rfl ?_
        refine V.iconst (v := nI 0) X d_Cp_block_66 (by decide +kernel) ?_
        refine V.bd (val := vV) X hres (c_Cp_stmts8 (S := S6) h hlt t o6 rfl) Y_Cp_statements k_Cp_117 rfl rfl rfl rfl (Rok.lt (by omega)) d_Cp_block_67 ?_
        intro v7 S7 x7 hres
        have r7 := rs_stmts t (rs_stm t 8) S6
        rw [x7] at r7
        have o7 : Ok m S7 := r7.1 o6
        try dsimp only at hres
        refine V.aload_n X d_Cp_block_70 rfl ?_
        refine g_Cp_code X k_Cp_28 d_Cp_block_71 ?_
        refine V.bipush (v := nI 19) X d_Cp_block_74 (by decide +kernel) ?_
        refine V.iconst (v := nI 0) X d_Cp_block_76 (by decide +kernel) ?_
        refine V.iconst (v := nI 0) X d_Cp_block_77 (by decide +kernel) ?_
        refine V.callV1 X (k_add (S := S7) h o7) Y_Co_add k_Cp_120 19 rfl rfl rfl rfl rfl (Rok.lt (by omega)) d_Cp_block_78 ?_
        have o8 : Ok m (cadd S7 19 0 0) := ok_add o7 (by decide)
        refine V.pop X d_Cp_block_81 rfl ?_
        refine V.iload_n X d_Cp_block_82 rfl ?_
        subst hres
        exact V.iret X d_Cp_block_83 rfl rfl
      · replace h36 := ek_inj X.kk (t.some o.1).2 (by decide) h36
        rw [bd_ps_t h36] at hres
        refine V.aload_n X d_Cp_block_39 rfl ?_
        refine V.iload_n X d_Cp_block_40 rfl ?_
        refine V.bd (val := vV) X hres (hP S _ h36 hlev o rfl) Y_Cp_procedure k_Cp_111 rfl rfl rfl rfl (Rok.lt (by omega)) d_Cp_block_41 ?_
        intro v9 S9 x9 hres
        have r9 := rl_proc t n S hlev h36 o
        rw [x9] at r9
        have o9 : Ok m S9 := r9.1
        have l9 : S9.2.1.2.2.2.2.2.2.1 = S.2.1.2.2.2.2.2.2.1 := r9.2 v9 rfl
        try dsimp only at hres
        have hl2 : S9.2.1.2.2.2.2.2.2.1 + n = 3 := by rw [show S9.2.1.2.2.2.2.2.2.1 = S.2.1.2.2.2.2.2.2.1 from l9]; exact hlev
        refine V.iinc (lv' := [(0, _), (1, _), (2, _)]) X d_Cp_block_44 rfl (show _ + nI 1 = _ from nI_add _ 1) (by decide) rfl ?_
        refine V.goto (tgt := 19) X d_Cp_block_47 (by decide) ?_
        exact ih _ _ (by omega) o9 hl2 hres
  · first | rw [if_pos h7] at hres | rw [if_neg h7] at hres | skip
    refine V.callV1 X (k_acc_f (S := S) h t o (by decide) h7) Y_Tk_accept k_Cp_84 3 rfl rfl rfl rfl rfl (Rok.lt (by omega)) d_Cp_block_7 ?_
    refine V.ifN_eq (tgt := 17) X d_Cp_block_10 (by decide) (by decide) (fun _ => ?_) (fun h => absurd rfl h)
    refine V.iconst (v := nI 0) X d_Cp_block_17 (by decide +kernel) ?_
    refine V.istore_n (lv' := [(0, _), (1, _), (2, _)]) X d_Cp_block_18 (by decide) rfl ?_
    suffices loop19 : ∀ (k9 i : Nat) (S : CS), i + k9 = 150 → Ok m S → S.2.1.2.2.2.2.2.2.1 + n = 3 → bd (cp_ps T (cp_proc T n) k9) (fun _ => cp_body T) S = Rr → V p l e (Rm (h + k + 1)) s m9 ([.ref (a 2), .int (nI d)] : List Value).toArray below meth c (Gz z) 3 0 0 (XE below (Gz z) (oc vI Rr.1) (Wr z a u w P F T D M Rr) ([.ref (a 2), .int (nI d)] : List Value).toArray s) (Wc z a u w P F T D M S) 19 [(0, .ref (a 2)), (1, .int (nI d)), (2, .int (nI i))] [] from loop19 150 0 _ rfl o hlev hres
    intro k9
    induction k9 with
    | zero =>
      intro i S hi o hlev hres
      rw [bd_ps_0] at hres
      refine V.iload_n X d_Cp_block_19 rfl ?_
      refine V.sipush (v := nI 150) X d_Cp_block_20 (by decide +kernel) ?_
      refine V.cmpN_ge (tgt := 50) X d_Cp_block_23 (by decide) (by first | omega | (dsimp only; omega) | (simp only [] at *; omega)) (by first | omega | (dsimp only; omega) | (simp only [] at *; omega)) (fun h23 => ?_) (fun h23 => absurd h23 (by omega))
      try dsimp only at hres
      rw [cp_body] at hres
      refine V.aload_n X d_Cp_block_50 rfl ?_
      refine g_Cp_code X k_Cp_28 d_Cp_block_51 ?_
      refine g_Co_size X k_Cp_43 d_Cp_block_54 ?_
      refine V.istore_n (lv' := [(0, _), (1, _), (2, _)]) X d_Cp_block_57 (by decide) rfl ?_
      refine V.aload_n X d_Cp_block_58 rfl ?_
      refine V.getK X 2 (by decide) k_Cp_114 d_Cp_block_59 ?_
      refine V.bd (val := vV) X hres (c_Cp_expect (S := S) h hlt t o (q := 2) (by decide) rfl) Y_Cp_expect k_Cp_59 rfl rfl rfl rfl (Rok.lt (by omega)) d_Cp_block_62 ?_
      intro v10 S10 x10 hres
      have r10 := rs_expect (q := 2) t (by decide) S
      rw [x10] at r10
      have o10 : Ok m S10 := r10.1 o
      try dsimp only at hres
      refine V.aload_n X d_Cp_block_65 rfl ?_
      refine V.iconst (v := nI 0) X d_Cp_block_66 (by decide +kernel) ?_
      refine V.bd (val := vV) X hres (c_Cp_stmts8 (S := S10) h hlt t o10 rfl) Y_Cp_statements k_Cp_117 rfl rfl rfl rfl (Rok.lt (by omega)) d_Cp_block_67 ?_
      intro v11 S11 x11 hres
      have r11 := rs_stmts t (rs_stm t 8) S10
      rw [x11] at r11
      have o11 : Ok m S11 := r11.1 o10
      try dsimp only at hres
      refine V.aload_n X d_Cp_block_70 rfl ?_
      refine g_Cp_code X k_Cp_28 d_Cp_block_71 ?_
      refine V.bipush (v := nI 19) X d_Cp_block_74 (by decide +kernel) ?_
      refine V.iconst (v := nI 0) X d_Cp_block_76 (by decide +kernel) ?_
      refine V.iconst (v := nI 0) X d_Cp_block_77 (by decide +kernel) ?_
      refine V.callV1 X (k_add (S := S11) h o11) Y_Co_add k_Cp_120 19 rfl rfl rfl rfl rfl (Rok.lt (by omega)) d_Cp_block_78 ?_
      have o12 : Ok m (cadd S11 19 0 0) := ok_add o11 (by decide)
      refine V.pop X d_Cp_block_81 rfl ?_
      refine V.iload_n X d_Cp_block_82 rfl ?_
      subst hres
      exact V.iret X d_Cp_block_83 rfl rfl
    | succ k9 ih =>
      intro i S hi o hlev hres
      refine V.iload_n X d_Cp_block_19 rfl ?_
      refine V.sipush (v := nI 150) X d_Cp_block_20 (by decide +kernel) ?_
      refine V.cmpN_ge (tgt := 50) X d_Cp_block_23 (by decide) (by first | omega | (dsimp only; omega) | (simp only [] at *; omega)) (by first | omega | (dsimp only; omega) | (simp only [] at *; omega)) (fun h23 => absurd h23 (by omega)) (fun h23 => ?_)
      refine V.aload_n X d_Cp_block_26 rfl ?_
      refine g_Cp_tokens X k_Cp_12 d_Cp_block_27 ?_
      refine V.callV1 X (k_kind (S := S) h t o) Y_Tk_kind k_Cp_63 3 rfl rfl rfl rfl rfl (Rok.lt (by omega)) d_Cp_block_30 ?_
      refine V.getK X 1 (by decide) k_Cp_108 d_Cp_block_33 ?_
      refine V.acmp_ne (tgt := 50) X d_Cp_block_36 (by decide) (fun h36 => ?_) (fun h36 => ?_)
      · replace h36 : ¬ kd T S.1 = 1 := fun q => h36 (by rw [q])
        rw [bd_ps_f h36] at hres
        try dsimp only at hres
        rw [cp_body] at hres
        refine V.aload_n X d_Cp_block_50 rfl ?_
        refine g_Cp_code X k_Cp_28 d_Cp_block_51 ?_
        refine g_Co_size X k_Cp_43 d_Cp_block_54 ?_
        refine V.istore_n (lv' := [(0, _), (1, _), (2, _)]) X d_Cp_block_57 (by decide) rfl ?_
        refine V.aload_n X d_Cp_block_58 rfl ?_
        refine V.getK X 2 (by decide) k_Cp_114 d_Cp_block_59 ?_
        refine V.bd (val := vV) X hres (c_Cp_expect (S := S) h hlt t o (q := 2) (by decide) rfl) Y_Cp_expect k_Cp_59 rfl rfl rfl rfl (Rok.lt (by omega)) d_Cp_block_62 ?_
        intro v13 S13 x13 hres
        have r13 := rs_expect (q := 2) t (by decide) S
        rw [x13] at r13
        have o13 : Ok m S13 := r13.1 o
        try dsimp only at hres
        refine V.aload_n X d_Cp_block_65 rfl ?_
        refine V.iconst (v := nI 0) X d_Cp_block_66 (by decide +kernel) ?_
        refine V.bd (val := vV) X hres (c_Cp_stmts8 (S := S13) h hlt t o13 rfl) Y_Cp_statements k_Cp_117 rfl rfl rfl rfl (Rok.lt (by omega)) d_Cp_block_67 ?_
        intro v14 S14 x14 hres
        have r14 := rs_stmts t (rs_stm t 8) S13
        rw [x14] at r14
        have o14 : Ok m S14 := r14.1 o13
        try dsimp only at hres
        refine V.aload_n X d_Cp_block_70 rfl ?_
        refine g_Cp_code X k_Cp_28 d_Cp_block_71 ?_
        refine V.bipush (v := nI 19) X d_Cp_block_74 (by decide +kernel) ?_
        refine V.iconst (v := nI 0) X d_Cp_block_76 (by decide +kernel) ?_
        refine V.iconst (v := nI 0) X d_Cp_block_77 (by decide +kernel) ?_
        refine V.callV1 X (k_add (S := S14) h o14) Y_Co_add k_Cp_120 19 rfl rfl rfl rfl rfl (Rok.lt (by omega)) d_Cp_block_78 ?_
        have o15 : Ok m (cadd S14 19 0 0) := ok_add o14 (by decide)
        refine V.pop X d_Cp_block_81 rfl ?_
        refine V.iload_n X d_Cp_block_82 rfl ?_
        subst hres
        exact V.iret X d_Cp_block_83 rfl rfl
      · replace h36 := ek_inj X.kk (t.some o.1).2 (by decide) h36
        rw [bd_ps_t h36] at hres
        refine V.aload_n X d_Cp_block_39 rfl ?_
        refine V.iload_n X d_Cp_block_40 rfl ?_
        refine V.bd (val := vV) X hres (hP S _ h36 hlev o rfl) Y_Cp_procedure k_Cp_111 rfl rfl rfl rfl (Rok.lt (by omega)) d_Cp_block_41 ?_
        intro v16 S16 x16 hres
        have r16 := rl_proc t n S hlev h36 o
        rw [x16] at r16
        have o16 : Ok m S16 := r16.1
        have l16 : S16.2.1.2.2.2.2.2.2.1 = S.2.1.2.2.2.2.2.2.1 := r16.2 v16 rfl
        try dsimp only at hres
        have hl2 : S16.2.1.2.2.2.2.2.2.1 + n = 3 := by rw [show S16.2.1.2.2.2.2.2.2.1 = S.2.1.2.2.2.2.2.2.1 from l16]; exact hlev
        refine V.iinc (lv' := [(0, _), (1, _), (2, _)]) X d_Cp_block_44 rfl (show _ + nI 1 = _ from nI_add _ 1) (by decide) rfl ?_
        refine V.goto (tgt := 19) X d_Cp_block_47 (by decide) ?_
        exact ih _ _ (by omega) o16 hl2 hres
theorem c_Cp_block {l : Launch} {z : Zt} {a u w : Nat → Nat} {P : Pm} {F : Int32} {T : Tk} {m : Nat} {D : Co} {M : Mc} (h : Nat) (hlt : l.stackTraces = false) (t : TkOk T m) : ∀ (n d : Nat) (S : CS) (Rr : CR), d + n = 4 → S.2.1.2.2.2.2.2.2.1 + n = 3 → Ok m S → cp_block T n S = Rr → XC l (Gz z) (h + (2 * n + 51)) y_Cp_block b_Cp_block 3 (some .int) [.ref (a 2), .int (nI d)] (Wc z a u w P F T D M S) (oc vI Rr.1) (Wr z a u w P F T D M Rr) := by
  intro n
  induction n with
  | zero =>
    intro d S Rr hd hlev o hres
    cases (show d = 4 from hd)
    rw [cp_block_eq] at hres
    exact c_Cp_bk (k := 50) h hlt t o (by decide) hlev (fun S Rr h1 hl o hr => c_Cp_proc0 (h + 49) hlt t o hr) hres
  | succ n ih =>
    intro d S Rr hd hlev o hres
    rw [cp_block_eq] at hres
    refine c_Cp_bk (k := 2 * n + 52) h hlt t o (by omega) hlev (fun S Rr h1 hl o hr => ?_) hres
    exact c_Cp_procS (k := 2 * n + 51) h hlt t o (by omega) hd hl h1 (fun S Rr hl o hr => ih (d + 1) S Rr (by omega) hl o hr) hr
section VB2
variable {p : Program} {l : Launch} {e : Env} {R : Room} {s : State} {m : MethodId} {args : Array Value} {below : List Frame} {meth : Method} {c : Code} {nL : Nat} {pc : Nat} {lv : List (Nat × Value)} {sk rest : List Value}
variable {cc : ByteArray} {ret : Option FieldType} {own : String} {z : Zt} {a u w : Nat → Nat} {P : Pm} {F : Int32} {T : Tk} {D : Co} {M : Mc}
theorem Vbd2 {F2 : Int32} {x : CS → CR} {f : Nat → CS → CR} {S : CS} {Rr : CR} {val val' : Nat → Option Value} {h : Nat} {y : MethodName} {ccY : ByteArray} {nLY n i : Nat} {retY : Option FieldType} {As : List Value} (X : Cx p s m args meth c (Gz z) cc nL ret own) (hres : bd x f S = Rr)
    (hM : XC l (Gz z) h y ccY nLY retY (.ref (a 2) :: As) (Wc z a u w P F T D M S) (oc val (x S).1) (Wr z a u w P F T D M (x S))) (Y : Yw y ccY nLY retY n) (hl : Cond.methodLink own i y ∈ gt) {N9 : Nat} {T9 : u_T} (hc : classes[1]? = some (y.cls, T9, N9)) (hn : As.length = n) (hstk : sk = As.reverse ++ .ref (a 2) :: rest) (hW : Nat.ble (rest.map fun v => v.category).sum 8 = true) (hR : Rok R h 0 0) (hd : decode cc pc = .ok (.invokevirtual i, 3))
    (kk : ∀ (v : Nat) (S1 : CS), x S = (.inr v, S1) → f v S1 = Rr → V p l e R s m args below meth c (Gz z) nL 0 0 (XE below (Gz z) (oc val' Rr.1) (Wr z a u w P F2 T D M Rr) args s) (Wc z a u w P F T D M S1) (pc + 3) lv ((val v).toList ++ rest)) :
    V p l e R s m args below meth c (Gz z) nL 0 0 (XE below (Gz z) (oc val' Rr.1) (Wr z a u w P F2 T D M Rr) args s) (Wc z a u w P F T D M S) pc lv sk := by
  rcases hx : x S with ⟨q | v, S1⟩
  · rw [hx] at hM
    rw [bd_no hx] at hres
    subst hres
    exact V.callVX X hM Y hl 2 rfl hc hn hstk hW hR hd rfl rfl
  · rw [hx] at hM
    rw [bd_ok hx] at hres
    exact V.callV X hM Y hl 2 rfl hc hn hstk hW hR hd (kk v S1 hx hres)
end VB2
def tk_all (f : Nat → Nat) (T : Tk) (b L : Nat) : Tk := ((tk_read f L 151 0 true (T.1, T.2.1, T.2.2.1, 0)).1, (tk_read f L 151 0 true (T.1, T.2.1, T.2.2.1, 0)).2.1, (tk_read f L 151 0 true (T.1, T.2.1, T.2.2.1, 0)).2.2.1, b, L, (tk_read f L 151 0 true (T.1, T.2.1, T.2.2.1, 0)).2.2.2, 0)
def cp_s0 (N : Nm) (C : Co) : CS := (0, nm_clear N, (C.1, C.2.1, C.2.2.1, C.2.2.2.1, C.2.2.2.2.1, C.2.2.2.2.2.1, 0, C.2.2.2.2.2.2.2))
def cp_start (e : Nat) (S1 : CS) : CS := (S1.1, S1.2.1, (S1.2.2.1, S1.2.2.2.1, S1.2.2.2.2.1, S1.2.2.2.2.2.1, S1.2.2.2.2.2.2.1, S1.2.2.2.2.2.2.2.1, S1.2.2.2.2.2.2.2.2.1, e))
set_option maxHeartbeats 4000000 in
set_option maxRecDepth 100000 in
theorem c_Cp_translate {l : Launch} {z : Zt} {a u w : Nat → Nat} {P : Pm} {F : Int32} {T : Tk} {N : Nm} {C D : Co} {M : Mc} {m L : Nat} {Rr : CR} (h : Nat) (hlt : l.stackTraces = false) (hL : L ≤ 300) (hP : ∀ j, P.1 j < 2 ^ 16) (t : TkOk (tk_all P.1 T (a 1) L) m) (o : Ok m (cp_s0 N C)) (hres : cp_all (tk_all P.1 T (a 1) L) (cp_s0 N C) = Rr) : XC l (Gz z) (h + 60) y_Cp_translate b_Cp_translate 3 (some .int) [.ref (a 2), .ref (a 1), .int (nI L)] (cw z a u w P F T N C D M) (oc vI Rr.1) (Wr z a u w P (-1) (tk_all P.1 T (a 1) L) D M Rr) := by
  rw [cp_all] at hres
  refine XC.ofV (by decide +kernel) rfl ?_
  intro p e s m9 below meth c X hnm
  refine V.lvs (lv' := [(0, .ref (a 2)), (1, .ref (a 1)), (2, .int (nI L))]) rfl ?_
  refine V.aload_n X d_Cp_translate_0 rfl ?_
  refine g_Cp_tokens X k_Cp_12 d_Cp_translate_1 ?_
  refine V.aload_n X d_Cp_translate_4 rfl ?_
  refine V.iload_n X d_Cp_translate_5 rfl ?_
  refine V.callV0 X (c_Tk_read h hL hP) Y_Tk_read k_Cp_36 3 rfl rfl rfl rfl rfl (Rok.lt (by omega)) d_Cp_translate_6 ?_
  refine V.aload_n X d_Cp_translate_9 rfl ?_
  refine g_Cp_names X k_Cp_21 d_Cp_translate_10 ?_
  refine V.callV0 X (c_Nm_clear h) Y_Nm_clear k_Cp_40 7 rfl rfl rfl rfl rfl (Rok.lt (by omega)) d_Cp_translate_13 ?_
  refine V.aload_n X d_Cp_translate_16 rfl ?_
  refine g_Cp_code X k_Cp_28 d_Cp_translate_17 ?_
  refine V.iconst (v := nI 0) X d_Cp_translate_20 (by decide +kernel) ?_
  refine p_Co_size X k_Cp_43 d_Cp_translate_21 ?_
  refine V.aload_n X d_Cp_translate_24 rfl ?_
  refine g_Cp_code X k_Cp_28 d_Cp_translate_25 ?_
  refine V.aload_n X d_Cp_translate_28 rfl ?_
  refine V.iconst (v := nI 1) X d_Cp_translate_29 (by decide +kernel) ?_
  refine V.eqw (ws' := Wc z a u w P F (tk_all P.1 T (a 1) L) D M (cp_s0 N C)) rfl ?_
  refine Vbd2 (val := vI) X hres (c_Cp_block h hlt t 3 1 (cp_s0 N C) _ rfl rfl o rfl) Y_Cp_block k_Cp_46 rfl rfl rfl rfl (Rok.lt (by omega)) d_Cp_translate_30 ?_
  intro v1 S1 x1 hres
  have r1 := rl_block t 3 (cp_s0 N C) rfl o
  rw [x1] at r1
  have o1 : Ok m S1 := r1.1
  try dsimp only at hres
  refine p_Co_start X k_Cp_50 d_Cp_translate_33 ?_
  refine V.eqw (ws' := Wc z a u w P F (tk_all P.1 T (a 1) L) D M (cp_start v1 S1)) rfl ?_
  have o2 : Ok m (cp_start v1 S1) := o1
  refine V.aload_n X d_Cp_translate_36 rfl ?_
  refine V.getK X 15 (by decide) k_Cp_53 d_Cp_translate_37 ?_
  refine Vbd2 (val := vV) X hres (c_Cp_expect (S := (cp_start v1 S1)) h hlt t o2 (q := 15) (by decide) rfl) Y_Cp_expect k_Cp_59 rfl rfl rfl rfl (Rok.lt (by omega)) d_Cp_translate_40 ?_
  intro v4 S4 x4 hres
  have r4 := rs_expect (q := 15) t (by decide) (cp_start v1 S1)
  rw [x4] at r4
  have o4 : Ok m S4 := r4.1 o2
  try dsimp only at hres
  refine V.aload_n X d_Cp_translate_43 rfl ?_
  refine g_Cp_tokens X k_Cp_12 d_Cp_translate_44 ?_
  refine V.callV1 X (k_kind (S := S4) h t o4) Y_Tk_kind k_Cp_63 3 rfl rfl rfl rfl rfl (Rok.lt (by omega)) d_Cp_translate_47 ?_
  refine V.getK X 28 (by decide) k_Cp_67 d_Cp_translate_50 ?_
  refine V.acmp_eq (tgt := 67) X d_Cp_translate_53 (by decide) (fun h53 => ?_) (fun h53 => ?_)
  · replace h53 := ek_inj X.kk (t.some o4.1).2 (by decide) h53
    first | rw [if_pos h53] at hres | rw [if_neg h53] at hres | skip
    refine V.aload_n X d_Cp_translate_67 rfl ?_
    refine V.iconst (v := -1) X d_Cp_translate_68 (by decide +kernel) ?_
    refine p_Cp_faultPlace X k_Cp_32 d_Cp_translate_69 ?_
    refine V.aload_n X d_Cp_translate_72 rfl ?_
    refine g_Cp_names X k_Cp_21 d_Cp_translate_73 ?_
    refine V.callV1 X (k_declared (m := m) (S := S4) h) Y_Nm_declared k_Cp_78 7 rfl rfl rfl rfl rfl (Rok.lt (by omega)) d_Cp_translate_76 ?_
    subst hres
    exact V.iret X d_Cp_translate_79 rfl rfl
  · replace h53 : ¬ kd (tk_all P.1 T (a 1) L) S4.1 = 28 := fun q => h53 (by rw [q])
    first | rw [if_pos h53] at hres | rw [if_neg h53] at hres | skip
    refine V.aload_n X d_Cp_translate_56 rfl ?_
    refine V.aload_n X d_Cp_translate_57 rfl ?_
    refine g_Cp_tokens X k_Cp_12 d_Cp_translate_58 ?_
    refine V.callV1 X (k_place (S := S4) h t o4) Y_Tk_place k_Cp_70 3 rfl rfl rfl rfl rfl (Rok.lt (by omega)) d_Cp_translate_61 ?_
    subst hres
    exact V.callVX X (c_Cp_refuse (S := S4) h hlt) Y_Cp_refuse k_Cp_74 2 rfl rfl rfl rfl rfl (Rok.lt (by omega)) d_Cp_translate_64 rfl rfl
