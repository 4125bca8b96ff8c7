set_option maxHeartbeats 4000000 in
set_option maxRecDepth 100000 in
theorem c_Cp_var {l : Launch} {z : Zt} {a u w : Nat → Nat} {P : Pm} {F : Int32} {T : Tk} {m : Nat} {D : Co} {M : Mc} {S : CS} {Rr : CR} (h : Nat) (hlt : l.stackTraces = false) (t : TkOk T m) (o : Ok m S) (h25 : kd T S.1 = 25) (hres : cp_var T S = Rr) : XC l (Gz z) (h + 2) y_Cp_variable b_Cp_variable 3 none [.ref (a 2)] (Wc z a u w P F T D M S) (oc vV Rr.1) (Wr z a u w P F T D M Rr) := by
  rw [cp_var] at hres
  refine XC.ofV (by decide +kernel) rfl ?_
  intro p e s m9 below meth c X hnm
  refine V.lvs (lv' := [(0, .ref (a 2))]) rfl ?_
  refine V.aload_n X d_Cp_variable_0 rfl ?_
  refine g_Cp_names X k_Cp_21 d_Cp_variable_1 ?_
  refine V.aload_n X d_Cp_variable_4 rfl ?_
  refine g_Cp_tokens X k_Cp_12 d_Cp_variable_5 ?_
  refine V.callV1 X (k_content (S := S) h t o) Y_Tk_content k_Cp_91 3 rfl rfl rfl rfl rfl (Rok.lt (by omega)) d_Cp_variable_8 ?_
  rcases f11 : nm_find S.2.1 (T.2.2.1 S.1) with _ | i11
  · rw [f11] at hres
    dsimp only at hres
    refine V.callV1 X (k_find_none (S := S) h o f11) Y_Nm_find k_Cp_204 7 rfl rfl rfl rfl rfl (Rok.lt (by omega)) d_Cp_variable_11 ?_
    refine V.istore_n (lv' := [(0, _), (1, _)]) X d_Cp_variable_14 (by decide) rfl ?_
    refine V.iload_n X d_Cp_variable_15 rfl ?_
    refine V.if_lt (tgt := 30) X d_Cp_variable_16 (by decide) (fun _ => ?_) (fun h => absurd (by decide) h)
    refine V.aload_n X d_Cp_variable_30 rfl ?_
    refine V.aload_n X d_Cp_variable_31 rfl ?_
    refine g_Cp_tokens X k_Cp_12 d_Cp_variable_32 ?_
    refine V.callV1 X (k_place (S := S) h t o) Y_Tk_place k_Cp_70 3 rfl rfl rfl rfl rfl (Rok.lt (by omega)) d_Cp_variable_35 ?_
    subst hres
    exact V.callVX X (c_Cp_refuse (S := S) h hlt) Y_Cp_refuse k_Cp_74 2 rfl rfl rfl rfl rfl (Rok.lt (by omega)) d_Cp_variable_38 rfl rfl
  · rw [f11] at hres
    dsimp only at hres
    obtain ⟨b11, c11⟩ := fnd18 o f11
    refine V.callV1 X (k_find_some (S := S) h o f11) Y_Nm_find k_Cp_204 7 rfl rfl rfl rfl rfl (Rok.lt (by omega)) d_Cp_variable_11 ?_
    refine V.istore_n (lv' := [(0, _), (1, _)]) X d_Cp_variable_14 (by decide) rfl ?_
    refine V.iload_n X d_Cp_variable_15 rfl ?_
    refine V.ifN_lt (tgt := 30) X d_Cp_variable_16 (by decide) (by first | omega | (dsimp only; omega) | (simp only [] at *; omega)) ?_
    refine V.aload_n X d_Cp_variable_19 rfl ?_
    refine g_Cp_names X k_Cp_21 d_Cp_variable_20 ?_
    refine V.iload_n X d_Cp_variable_23 rfl ?_
    refine V.callV1 X (k_isProcedure (S := S) h o b11) Y_Nm_isProcedure k_Cp_208 7 rfl rfl rfl rfl rfl (Rok.lt (by omega)) d_Cp_variable_24 ?_
    refine V.ifB_eq (tgt := 41) X d_Cp_variable_27 (by decide) (fun h27 => ?_) (fun h27 => ?_)
    · replace h27 := of_decide_eq_false h27
      first | rw [if_pos h27] at hres | rw [if_neg h27] at hres | skip
      refine V.aload_n X d_Cp_variable_41 rfl ?_
      refine g_Cp_names X k_Cp_21 d_Cp_variable_42 ?_
      refine V.iload_n X d_Cp_variable_45 rfl ?_
      refine V.callV1 X (k_isReference (S := S) h o b11) Y_Nm_isReference k_Cp_215 7 rfl rfl rfl rfl rfl (Rok.lt (by omega)) d_Cp_variable_46 ?_
      refine V.ifB_eq (tgt := 56) X d_Cp_variable_49 (by decide) (fun h49 => ?_) (fun h49 => ?_)
      · replace h49 := of_decide_eq_false h49
        first | rw [if_pos h49] at hres | rw [if_neg h49] at hres | skip
        refine V.iconst (v := nI 2) X d_Cp_variable_56 (by decide +kernel) ?_
        refine V.istore_n (lv' := [(0, _), (1, _), (2, _)]) X d_Cp_variable_57 (by decide) rfl ?_
        refine V.aload_n X d_Cp_variable_58 rfl ?_
        refine g_Cp_code X k_Cp_28 d_Cp_variable_59 ?_
        refine V.iload_n X d_Cp_variable_62 rfl ?_
        refine V.aload_n X d_Cp_variable_63 rfl ?_
        refine g_Cp_names X k_Cp_21 d_Cp_variable_64 ?_
        refine V.iload_n X d_Cp_variable_67 rfl ?_
        refine V.callV1 X (k_hops (S := S) h o b11 c11) Y_Nm_hops k_Cp_218 7 rfl rfl rfl rfl rfl (Rok.lt (by omega)) d_Cp_variable_68 ?_
        refine V.aload_n X d_Cp_variable_71 rfl ?_
        refine g_Cp_names X k_Cp_21 d_Cp_variable_72 ?_
        refine V.iload_n X d_Cp_variable_75 rfl ?_
        refine V.callV1 X (k_number (m := m) (S := S) h b11) Y_Nm_number k_Cp_221 7 rfl rfl rfl rfl rfl (Rok.lt (by omega)) d_Cp_variable_76 ?_
        refine V.callV1 X (k_add (S := S) h o) Y_Co_add k_Cp_120 19 rfl rfl rfl rfl rfl (Rok.lt (by omega)) d_Cp_variable_79 ?_
        have o1 : Ok m (cadd S 2 (S.2.1.2.2.2.2.2.2.1 - S.2.1.2.2.1 i11) (S.2.1.2.2.2.1 i11)) := ok_add o (by decide)
        refine V.pop X d_Cp_variable_82 rfl ?_
        refine V.aload_n X d_Cp_variable_83 rfl ?_
        refine g_Cp_tokens X k_Cp_12 d_Cp_variable_84 ?_
        refine V.callV0 X (k_advance (S := (cadd S 2 (S.2.1.2.2.2.2.2.2.1 - S.2.1.2.2.1 i11) (S.2.1.2.2.2.1 i11))) h t o1) Y_Tk_advance k_Cp_99 3 rfl rfl rfl rfl rfl (Rok.lt (by omega)) d_Cp_variable_87 ?_
        have o2 := ok_adv (S := (cadd S 2 (S.2.1.2.2.2.2.2.2.1 - S.2.1.2.2.1 i11) (S.2.1.2.2.2.1 i11))) t o1 h25 (by decide)
        subst hres
        exact V.vret X d_Cp_variable_90 rfl rfl
      · replace h49 := of_decide_eq_true h49
        first | rw [if_pos h49] at hres | rw [if_neg h49] at hres | skip
        refine V.iconst (v := nI 3) X d_Cp_variable_52 (by decide +kernel) ?_
        refine V.goto (tgt := 57) X d_Cp_variable_53 (by decide) ?_
        refine V.istore_n (lv' := [(0, _), (1, _), (2, _)]) X d_Cp_variable_57 (by decide) rfl ?_
        refine V.aload_n X d_Cp_variable_58 rfl ?_
        refine g_Cp_code X k_Cp_28 d_Cp_variable_59 ?_
        refine V.iload_n X d_Cp_variable_62 rfl ?_
        refine V.aload_n X d_Cp_variable_63 rfl ?_
        refine g_Cp_names X k_Cp_21 d_Cp_variable_64 ?_
        refine V.iload_n X d_Cp_variable_67 rfl ?_
        refine V.callV1 X (k_hops (S := S) h o b11 c11) Y_Nm_hops k_Cp_218 7 rfl rfl rfl rfl rfl (Rok.lt (by omega)) d_Cp_variable_68 ?_
        refine V.aload_n X d_Cp_variable_71 rfl ?_
        refine g_Cp_names X k_Cp_21 d_Cp_variable_72 ?_
        refine V.iload_n X d_Cp_variable_75 rfl ?_
        refine V.callV1 X (k_number (m := m) (S := S) h b11) Y_Nm_number k_Cp_221 7 rfl rfl rfl rfl rfl (Rok.lt (by omega)) d_Cp_variable_76 ?_
        refine V.callV1 X (k_add (S := S) h o) Y_Co_add k_Cp_120 19 rfl rfl rfl rfl rfl (Rok.lt (by omega)) d_Cp_variable_79 ?_
        have o3 : Ok m (cadd S 3 (S.2.1.2.2.2.2.2.2.1 - S.2.1.2.2.1 i11) (S.2.1.2.2.2.1 i11)) := ok_add o (by decide)
        refine V.pop X d_Cp_variable_82 rfl ?_
        refine V.aload_n X d_Cp_variable_83 rfl ?_
        refine g_Cp_tokens X k_Cp_12 d_Cp_variable_84 ?_
        refine V.callV0 X (k_advance (S := (cadd S 3 (S.2.1.2.2.2.2.2.2.1 - S.2.1.2.2.1 i11) (S.2.1.2.2.2.1 i11))) h t o3) Y_Tk_advance k_Cp_99 3 rfl rfl rfl rfl rfl (Rok.lt (by omega)) d_Cp_variable_87 ?_
        have o4 := ok_adv (S := (cadd S 3 (S.2.1.2.2.2.2.2.2.1 - S.2.1.2.2.1 i11) (S.2.1.2.2.2.1 i11))) t o3 h25 (by decide)
        subst hres
        exact V.vret X d_Cp_variable_90 rfl rfl
    · replace h27 := of_decide_eq_true h27
      first | rw [if_pos h27] at hres | rw [if_neg h27] at hres | skip
      refine V.aload_n X d_Cp_variable_30 rfl ?_
      refine V.aload_n X d_Cp_variable_31 rfl ?_
      refine g_Cp_tokens X k_Cp_12 d_Cp_variable_32 ?_
      refine V.callV1 X (k_place (S := S) h t o) Y_Tk_place k_Cp_70 3 rfl rfl rfl rfl rfl (Rok.lt (by omega)) d_Cp_variable_35 ?_
      subst hres
      exact V.callVX X (c_Cp_refuse (S := S) h hlt) Y_Cp_refuse k_Cp_74 2 rfl rfl rfl rfl rfl (Rok.lt (by omega)) d_Cp_variable_38 rfl rfl
set_option maxHeartbeats 4000000 in
set_option maxRecDepth 100000 in
theorem c_Cp_fact0 {l : Launch} {z : Zt} {a u w : Nat → Nat} {P : Pm} {F : Int32} {T : Tk} {m : Nat} {D : Co} {M : Mc} {S : CS} {Rr : CR} (h : Nat) (hlt : l.stackTraces = false) (t : TkOk T m) (o : Ok m S)  (hres : cp_fact T (cp_no T) S = Rr) : XC l (Gz z) (h + 3) y_Cp_factor b_Cp_factor 2 none [.ref (a 2), .int (nI 8)] (Wc z a u w P F T D M S) (oc vV Rr.1) (Wr z a u w P F T D M Rr) := by
  rw [cp_fact] at hres
  refine XC.ofV (by decide +kernel) rfl ?_
  intro p e s m9 below meth c X hnm
  refine V.lvs (lv' := [(0, .ref (a 2)), (1, .int (nI 8))]) rfl ?_
  refine V.getSw X k_Cp_172 d_Cp_factor_0 ?_
  refine V.aload_n X d_Cp_factor_3 rfl ?_
  refine g_Cp_tokens X k_Cp_12 d_Cp_factor_4 ?_
  refine V.callV1 X (k_kind (S := S) h t o) Y_Tk_kind k_Cp_63 3 rfl rfl rfl rfl rfl (Rok.lt (by omega)) d_Cp_factor_7 ?_
  refine V.ordinal X h (t.some o.1).2 k_Cp_177 rfl (Rok.lt (by omega)) d_Cp_factor_10 ?_
  refine V.ldSw X (t.some o.1).2 d_Cp_factor_13 ?_
  by_cases w26 : kd T S.1 = 26
  · first | rw [if_pos w26] at hres | rw [if_neg w26] at hres | skip
    refine V.eqs (sk' := [.int (nI 12)]) (by rw [w26]; rfl) ?_
    refine V.lookup (off := 34) (tgt := 48) X d_Cp_factor_14 (by decide +kernel) (by decide +kernel) (by decide) ?_
    refine V.aload_n X d_Cp_factor_48 rfl ?_
    refine g_Cp_code X k_Cp_28 d_Cp_factor_49 ?_
    refine V.iconst (v := nI 1) X d_Cp_factor_52 (by decide +kernel) ?_
    refine V.aload_n X d_Cp_factor_53 rfl ?_
    refine g_Cp_tokens X k_Cp_12 d_Cp_factor_54 ?_
    refine V.callV1 X (k_content (S := S) h t o) Y_Tk_content k_Cp_91 3 rfl rfl rfl rfl rfl (Rok.lt (by omega)) d_Cp_factor_57 ?_
    refine V.l2i X d_Cp_factor_60 (nI_i32n _).symm ?_
    refine V.iconst (v := nI 0) X d_Cp_factor_61 (by decide +kernel) ?_
    refine V.callV1 X (k_add (S := S) h o) Y_Co_add k_Cp_120 19 rfl rfl rfl rfl rfl (Rok.lt (by omega)) d_Cp_factor_62 ?_
    have o1 : Ok m (cadd S 1 (i32n (T.2.2.1 S.1).toInt32) 0) := ok_add o (by decide)
    refine V.pop X d_Cp_factor_65 rfl ?_
    refine V.aload_n X d_Cp_factor_66 rfl ?_
    refine g_Cp_tokens X k_Cp_12 d_Cp_factor_67 ?_
    refine V.callV0 X (k_advance (S := (cadd S 1 (i32n (T.2.2.1 S.1).toInt32) 0)) h t o1) Y_Tk_advance k_Cp_99 3 rfl rfl rfl rfl rfl (Rok.lt (by omega)) d_Cp_factor_70 ?_
    have o2 := ok_adv (S := (cadd S 1 (i32n (T.2.2.1 S.1).toInt32) 0)) t o1 w26 (by decide)
    refine V.goto (tgt := 135) X d_Cp_factor_73 (by decide) ?_
    subst hres
    exact V.vret X d_Cp_factor_135 rfl rfl
  · first | rw [if_pos w26] at hres | rw [if_neg w26] at hres | skip
    by_cases w25 : kd T S.1 = 25
    · first | rw [if_pos w25] at hres | rw [if_neg w25] at hres | skip
      refine V.eqs (sk' := [.int (nI 1)]) (by rw [w25]; rfl) ?_
      refine V.lookup (off := 62) (tgt := 76) X d_Cp_factor_14 (by decide +kernel) (by decide +kernel) (by decide) ?_
      refine V.aload_n X d_Cp_factor_76 rfl ?_
      refine V.bd (val := vV) X (bd_tail hres) (c_Cp_var (S := S) h hlt t o w25 rfl) Y_Cp_variable k_Cp_266 rfl rfl rfl rfl (Rok.lt (by omega)) d_Cp_factor_77 ?_
      intro v3 S3 x3 hres
      have r3 := rs_var t S w25
      rw [x3] at r3
      have o3 : Ok m S3 := r3.1 o
      try dsimp only at hres
      refine V.goto (tgt := 135) X d_Cp_factor_80 (by decide) ?_
      subst hres
      exact V.vret X d_Cp_factor_135 rfl rfl
    · first | rw [if_pos w25] at hres | rw [if_neg w25] at hres | skip
      by_cases w13 : kd T S.1 = 13
      · first | rw [if_pos w13] at hres | rw [if_neg w13] at hres | skip
        refine V.eqs (sk' := [.int (nI 13)]) (by rw [w13]; rfl) ?_
        refine V.lookup (off := 69) (tgt := 83) X d_Cp_factor_14 (by decide +kernel) (by decide +kernel) (by decide) ?_
        refine V.iload_n X d_Cp_factor_83 rfl ?_
        refine V.bipush (v := nI 8) X d_Cp_factor_84 (by decide +kernel) ?_
        refine V.cmpN_ne (tgt := 100) X d_Cp_factor_86 (by decide) (by first | omega | (dsimp only; omega) | (simp only [] at *; omega)) (by first | omega | (dsimp only; omega) | (simp only [] at *; omega)) (fun h86 => absurd h86 (fun q => q rfl)) (fun h86 => ?_)
        refine V.aload_n X d_Cp_factor_89 rfl ?_
        refine V.aload_n X d_Cp_factor_90 rfl ?_
        refine g_Cp_tokens X k_Cp_12 d_Cp_factor_91 ?_
        refine V.callV1 X (k_place (S := S) h t o) Y_Tk_place k_Cp_70 3 rfl rfl rfl rfl rfl (Rok.lt (by omega)) d_Cp_factor_94 ?_
        subst hres
        exact V.callVX X (c_Cp_refuse (S := S) h hlt) Y_Cp_refuse k_Cp_74 2 rfl rfl rfl rfl rfl (Rok.lt (by omega)) d_Cp_factor_97 rfl rfl
      · first | rw [if_pos w13] at hres | rw [if_neg w13] at hres | skip
        have hdf : ∀ k, k < 29 → k ≠ 26 ∧ k ≠ 25 ∧ k ≠ 13 → Op.lookupswitch.offset ([(1, 62), (12, 34), (13, 69)]) 110 (nI (swm k)).toInt = 110 := by decide +kernel
        refine V.lookup (off := 110) (tgt := 124) X d_Cp_factor_14 (by decide +kernel) (hdf _ (t.some o.1).2 ⟨w26, w25, w13⟩) (by decide) ?_
        refine V.aload_n X d_Cp_factor_124 rfl ?_
        refine V.aload_n X d_Cp_factor_125 rfl ?_
        refine g_Cp_tokens X k_Cp_12 d_Cp_factor_126 ?_
        refine V.callV1 X (k_place (S := S) h t o) Y_Tk_place k_Cp_70 3 rfl rfl rfl rfl rfl (Rok.lt (by omega)) d_Cp_factor_129 ?_
        subst hres
        exact V.callVX X (c_Cp_refuse (S := S) h hlt) Y_Cp_refuse k_Cp_74 2 rfl rfl rfl rfl rfl (Rok.lt (by omega)) d_Cp_factor_132 rfl rfl
set_option maxHeartbeats 4000000 in
set_option maxRecDepth 100000 in
theorem c_Cp_factS {l : Launch} {z : Zt} {a u w : Nat → Nat} {P : Pm} {F : Int32} {T : Tk} {m : Nat} {D : Co} {M : Mc} {S : CS} {Rr : CR} (h : Nat) (hlt : l.stackTraces = false) (t : TkOk T m) (o : Ok m S) {n d k : Nat} (hk : 3 ≤ k) (hd : d + n + 1 = 8) (hE : ∀ (S : CS) (Rr : CR), Ok m S → cp_expr T n S = Rr → XC l (Gz z) (h + k) y_Cp_expression b_Cp_expression 5 none [.ref (a 2), .int (nI (d + 1))] (Wc z a u w P F T D M S) (oc vV Rr.1) (Wr z a u w P F T D M Rr)) (hres : cp_fact T (cp_brk T (n + 1)) S = Rr) : XC l (Gz z) (h + k + 1) y_Cp_factor b_Cp_factor 2 none [.ref (a 2), .int (nI d)] (Wc z a u w P F T D M S) (oc vV Rr.1) (Wr z a u w P F T D M Rr) := by
  rw [cp_fact] at hres
  refine XC.ofV (by decide +kernel) rfl ?_
  intro p e s m9 below meth c X hnm
  refine V.lvs (lv' := [(0, .ref (a 2)), (1, .int (nI d))]) rfl ?_
  refine V.getSw X k_Cp_172 d_Cp_factor_0 ?_
  refine V.aload_n X d_Cp_factor_3 rfl ?_
  refine g_Cp_tokens X k_Cp_12 d_Cp_factor_4 ?_
  refine V.callV1 X (k_kind (S := S) h t o) Y_Tk_kind k_Cp_63 3 rfl rfl rfl rfl rfl (Rok.lt (by omega)) d_Cp_factor_7 ?_
  refine V.ordinal X h (t.some o.1).2 k_Cp_177 rfl (Rok.lt (by omega)) d_Cp_factor_10 ?_
  refine V.ldSw X (t.some o.1).2 d_Cp_factor_13 ?_
  by_cases w26 : kd T S.1 = 26
  · first | rw [if_pos w26] at hres | rw [if_neg w26] at hres | skip
    refine V.eqs (sk' := [.int (nI 12)]) (by rw [w26]; rfl) ?_
    refine V.lookup (off := 34) (tgt := 48) X d_Cp_factor_14 (by decide +kernel) (by decide +kernel) (by decide) ?_
    refine V.aload_n X d_Cp_factor_48 rfl ?_
    refine g_Cp_code X k_Cp_28 d_Cp_factor_49 ?_
    refine V.iconst (v := nI 1) X d_Cp_factor_52 (by decide +kernel) ?_
    refine V.aload_n X d_Cp_factor_53 rfl ?_
    refine g_Cp_tokens X k_Cp_12 d_Cp_factor_54 ?_
    refine V.callV1 X (k_content (S := S) h t o) Y_Tk_content k_Cp_91 3 rfl rfl rfl rfl rfl (Rok.lt (by omega)) d_Cp_factor_57 ?_
    refine V.l2i X d_Cp_factor_60 (nI_i32n _).symm ?_
    refine V.iconst (v := nI 0) X d_Cp_factor_61 (by decide +kernel) ?_
    refine V.callV1 X (k_add (S := S) h o) Y_Co_add k_Cp_120 19 rfl rfl rfl rfl rfl (Rok.lt (by omega)) d_Cp_factor_62 ?_
    have o1 : Ok m (cadd S 1 (i32n (T.2.2.1 S.1).toInt32) 0) := ok_add o (by decide)
    refine V.pop X d_Cp_factor_65 rfl ?_
    refine V.aload_n X d_Cp_factor_66 rfl ?_
    refine g_Cp_tokens X k_Cp_12 d_Cp_factor_67 ?_
    refine V.callV0 X (k_advance (S := (cadd S 1 (i32n (T.2.2.1 S.1).toInt32) 0)) h t o1) Y_Tk_advance k_Cp_99 3 rfl rfl rfl rfl rfl (Rok.lt (by omega)) d_Cp_factor_70 ?_
    have o2 := ok_adv (S := (cadd S 1 (i32n (T.2.2.1 S.1).toInt32) 0)) t o1 w26 (by decide)
    refine V.goto (tgt := 135) X d_Cp_factor_73 (by decide) ?_
    subst hres
    exact V.vret X d_Cp_factor_135 rfl rfl
  · first | rw [if_pos w26] at hres | rw [if_neg w26] at hres | skip
    by_cases w25 : kd T S.1 = 25
    · first | rw [if_pos w25] at hres | rw [if_neg w25] at hres | skip
      refine V.eqs (sk' := [.int (nI 1)]) (by rw [w25]; rfl) ?_
      refine V.lookup (off := 62) (tgt := 76) X d_Cp_factor_14 (by decide +kernel) (by decide +kernel) (by decide) ?_
      refine V.aload_n X d_Cp_factor_76 rfl ?_
      refine V.bd (val := vV) X (bd_tail hres) (c_Cp_var (S := S) h hlt t o w25 rfl) Y_Cp_variable k_Cp_266 rfl rfl rfl rfl (Rok.lt (by omega)) d_Cp_factor_77 ?_
      intro v3 S3 x3 hres
      have r3 := rs_var t S w25
      rw [x3] at r3
      have o3 : Ok m S3 := r3.1 o
      try dsimp only at hres
      refine V.goto (tgt := 135) X d_Cp_factor_80 (by decide) ?_
      subst hres
      exact V.vret X d_Cp_factor_135 rfl rfl
    · first | rw [if_pos w25] at hres | rw [if_neg w25] at hres | skip
      by_cases w13 : kd T S.1 = 13
      · first | rw [if_pos w13] at hres | rw [if_neg w13] at hres | skip
        change bd (cp_expr T n) (fun _ => cp_expect T 14) (adv S) = Rr at hres
        refine V.eqs (sk' := [.int (nI 13)]) (by rw [w13]; rfl) ?_
        refine V.lookup (off := 69) (tgt := 83) X d_Cp_factor_14 (by decide +kernel) (by decide +kernel) (by decide) ?_
        refine V.iload_n X d_Cp_factor_83 rfl ?_
        refine V.bipush (v := nI 8) X d_Cp_factor_84 (by decide +kernel) ?_
        refine V.cmpN_ne (tgt := 100) X d_Cp_factor_86 (by decide) (by first | omega | (dsimp only; omega) | (simp only [] at *; omega)) (by first | omega | (dsimp only; omega) | (simp only [] at *; omega)) (fun h86 => ?_) (fun h86 => absurd h86 (by omega))
        refine V.aload_n X d_Cp_factor_100 rfl ?_
        refine g_Cp_tokens X k_Cp_12 d_Cp_factor_101 ?_
        refine V.callV0 X (k_advance (S := S) h t o) Y_Tk_advance k_Cp_99 3 rfl rfl rfl rfl rfl (Rok.lt (by omega)) d_Cp_factor_104 ?_
        have o4 := ok_adv (S := S) t o w13 (by decide)
        refine V.aload_n X d_Cp_factor_107 rfl ?_
        refine V.iload_n X d_Cp_factor_108 rfl ?_
        refine V.iconst (v := nI 1) X d_Cp_factor_109 (by decide +kernel) ?_
        refine V.iadd X d_Cp_factor_110 (nI_add _ _) ?_
        refine V.bd (val := vV) X hres (hE (adv S) _ o4 rfl) Y_Cp_expression k_Cp_212 rfl rfl rfl rfl (Rok.lt (by omega)) d_Cp_factor_111 ?_
        intro v5 S5 x5 hres
        have r5 := rs_expr t n (adv S)
        rw [x5] at r5
        have o5 : Ok m S5 := r5.1 o4
        try dsimp only at hres
        refine V.aload_n X d_Cp_factor_114 rfl ?_
        refine V.getK X 14 (by decide) k_Cp_160 d_Cp_factor_115 ?_
        refine V.bd (val := vV) X (bd_tail hres) (c_Cp_expect (S := S5) h hlt t o5 (q := 14) (by decide) rfl) Y_Cp_expect k_Cp_59 rfl rfl rfl rfl (Rok.lt (by omega)) d_Cp_factor_118 ?_
        intro v6 S6 x6 hres
        have r6 := rs_expect (q := 14) t (by decide) S5
        rw [x6] at r6
        have o6 : Ok m S6 := r6.1 o5
        try dsimp only at hres
        refine V.goto (tgt := 135) X d_Cp_factor_121 (by decide) ?_
        subst hres
        exact V.vret X d_Cp_factor_135 rfl rfl
      · first | rw [if_pos w13] at hres | rw [if_neg w13] at hres | skip
        have hdf : ∀ k, k < 29 → k ≠ 26 ∧ k ≠ 25 ∧ k ≠ 13 → Op.lookupswitch.offset ([(1, 62), (12, 34), (13, 69)]) 110 (nI (swm k)).toInt = 110 := by decide +kernel
        refine V.lookup (off := 110) (tgt := 124) X d_Cp_factor_14 (by decide +kernel) (hdf _ (t.some o.1).2 ⟨w26, w25, w13⟩) (by decide) ?_
        refine V.aload_n X d_Cp_factor_124 rfl ?_
        refine V.aload_n X d_Cp_factor_125 rfl ?_
        refine g_Cp_tokens X k_Cp_12 d_Cp_factor_126 ?_
        refine V.callV1 X (k_place (S := S) h t o) Y_Tk_place k_Cp_70 3 rfl rfl rfl rfl rfl (Rok.lt (by omega)) d_Cp_factor_129 ?_
        subst hres
        exact V.callVX X (c_Cp_refuse (S := S) h hlt) Y_Cp_refuse k_Cp_74 2 rfl rfl rfl rfl rfl (Rok.lt (by omega)) d_Cp_factor_132 rfl rfl
set_option maxHeartbeats 4000000 in
set_option maxRecDepth 100000 in
theorem c_Cp_term {l : Launch} {z : Zt} {a u w : Nat → Nat} {P : Pm} {F : Int32} {T : Tk} {m : Nat} {D : Co} {M : Mc} {S : CS} {Rr : CR} (h : Nat) (hlt : l.stackTraces = false) (t : TkOk T m) (o : Ok m S) {f : CS → CR} {d k : Nat} (hk : 3 ≤ k) (hf : ∀ S, RS m S (f S).2) (hF : ∀ (S : CS) (Rr : CR), Ok m S → f S = Rr → XC l (Gz z) (h + k) y_Cp_factor b_Cp_factor 2 none [.ref (a 2), .int (nI d)] (Wc z a u w P F T D M S) (oc vV Rr.1) (Wr z a u w P F T D M Rr)) (hres : cp_term T f S = Rr) : XC l (Gz z) (h + k + 1) y_Cp_term b_Cp_term 4 none [.ref (a 2), .int (nI d)] (Wc z a u w P F T D M S) (oc vV Rr.1) (Wr z a u w P F T D M Rr) := by
  rw [cp_term] at hres
  refine XC.ofV (by decide +kernel) rfl ?_
  intro p e s m9 below meth c X hnm
  refine V.lvs (lv' := [(0, .ref (a 2)), (1, .int (nI d))]) rfl ?_
  refine V.aload_n X d_Cp_term_0 rfl ?_
  refine V.iload_n X d_Cp_term_1 rfl ?_
  refine V.bd (val := vV) X hres (hF S _ o rfl) Y_Cp_factor k_Cp_260 rfl rfl rfl rfl (Rok.lt (by omega)) d_Cp_term_2 ?_
  intro v1 S1 x1 hres
  have r1 := hf S
  rw [x1] at r1
  have o1 : Ok m S1 := r1.1 o
  try dsimp only at hres
  refine V.aload_n X d_Cp_term_5 rfl ?_
  refine V.callV1 X (c_Cp_multiplication (S := S1) (h + 1) hlt t o1) Y_Cp_multiplication k_Cp_263 2 rfl rfl rfl rfl rfl (Rok.lt (by omega)) d_Cp_term_6 ?_
  refine V.istore_n (lv' := [(0, _), (1, _), (2, _)]) X d_Cp_term_9 (by decide) rfl ?_
  refine V.iconst (v := nI 0) X d_Cp_term_10 (by decide +kernel) ?_
  refine V.istore_n (lv' := [(0, _), (1, _), (2, _), (3, _)]) X d_Cp_term_11 (by decide) rfl ?_
  suffices loop12 : ∀ (n i : Nat) (S : CS), i + n = 150 → Ok m S → cp_tl T f n S = Rr → V p l e (Rm (h + k + 1)) s m9 ([.ref (a 2), .int (nI d)] : List Value).toArray below meth c (Gz z) 4 0 0 (XE below (Gz z) (oc vV Rr.1) (Wr z a u w P F T D M Rr) ([.ref (a 2), .int (nI d)] : List Value).toArray s) (Wc z a u w P F T D M S) 12 [(0, .ref (a 2)), (1, .int (nI d)), (2, .int (fI (mulop (kd T S.1)))), (3, .int (nI i))] [] from loop12 150 0 _ rfl o1 hres
  intro n
  induction n with
  | zero =>
    intro i S hi o hres
    refine V.iload_n X d_Cp_term_12 rfl ?_
    refine V.sipush (v := nI 150) X d_Cp_term_13 (by decide +kernel) ?_
    refine V.cmpN_ge (tgt := 57) X d_Cp_term_16 (by decide) (by first | omega | (dsimp only; omega) | (simp only [] at *; omega)) (by first | omega | (dsimp only; omega) | (simp only [] at *; omega)) (fun h16 => ?_) (fun h16 => absurd h16 (by omega))
    subst hres
    exact V.vret X d_Cp_term_57 rfl rfl
  | succ n ih =>
    intro i S hi o hres
    refine V.iload_n X d_Cp_term_12 rfl ?_
    refine V.sipush (v := nI 150) X d_Cp_term_13 (by decide +kernel) ?_
    refine V.cmpN_ge (tgt := 57) X d_Cp_term_16 (by decide) (by first | omega | (dsimp only; omega) | (simp only [] at *; omega)) (by first | omega | (dsimp only; omega) | (simp only [] at *; omega)) (fun h16 => absurd h16 (by omega)) (fun h16 => ?_)
    refine V.iload_n X d_Cp_term_19 rfl ?_
    rcases hm : mulop (kd T S.1) with _ | x
    · rw [cp_tl, hm] at hres
      dsimp only at hres
      refine V.eqs (sk' := [.int (-1)]) rfl ?_
      refine V.if_lt (tgt := 57) X d_Cp_term_20 (by decide) (fun _ => ?_) (fun h => absurd (by decide) h)
      subst hres
      exact V.vret X d_Cp_term_57 rfl rfl
    · rw [cp_tl, hm] at hres
      dsimp only at hres
      have hx2 := (mulop_lt hm).2
      refine V.eqs (sk' := [.int (nI x)]) rfl ?_
      refine V.lvs (lv' := [(0, .ref (a 2)), (1, .int (nI d)), (2, .int (nI x)), (3, .int (nI i))]) rfl ?_
      refine V.ifN_lt (tgt := 57) X d_Cp_term_20 (by decide) (by omega) ?_
      refine V.aload_n X d_Cp_term_23 rfl ?_
      refine g_Cp_tokens X k_Cp_12 d_Cp_term_24 ?_
      refine V.callV0 X (k_advance (S := S) h t o) Y_Tk_advance k_Cp_99 3 rfl rfl rfl rfl rfl (Rok.lt (by omega)) d_Cp_term_27 ?_
      have o2 := ok_adv (S := S) t o rfl (mulop_lt hm).1
      refine V.aload_n X d_Cp_term_30 rfl ?_
      refine V.iload_n X d_Cp_term_31 rfl ?_
      refine V.bd (val := vV) X hres (hF (adv S) _ o2 rfl) Y_Cp_factor k_Cp_260 rfl rfl rfl rfl (Rok.lt (by omega)) d_Cp_term_32 ?_
      intro v3 S3 x3 hres
      have r3 := hf (adv S)
      rw [x3] at r3
      have o3 : Ok m S3 := r3.1 o2
      try dsimp only at hres
      refine V.aload_n X d_Cp_term_35 rfl ?_
      refine g_Cp_code X k_Cp_28 d_Cp_term_36 ?_
      refine V.iload_n X d_Cp_term_39 rfl ?_
      refine V.iconst (v := nI 0) X d_Cp_term_40 (by decide +kernel) ?_
      refine V.iconst (v := nI 0) X d_Cp_term_41 (by decide +kernel) ?_
      refine V.callV1 X (k_add (S := S3) h o3) Y_Co_add k_Cp_120 19 rfl rfl rfl rfl rfl (Rok.lt (by omega)) d_Cp_term_42 ?_
      have o4 : Ok m (cadd S3 x 0 0) := ok_add o3 hx2
      refine V.pop X d_Cp_term_45 rfl ?_
      refine V.aload_n X d_Cp_term_46 rfl ?_
      refine V.callV1 X (c_Cp_multiplication (S := (cadd S3 x 0 0)) (h + 1) hlt t o4) Y_Cp_multiplication k_Cp_263 2 rfl rfl rfl rfl rfl (Rok.lt (by omega)) d_Cp_term_47 ?_
      refine V.istore_n (lv' := [(0, _), (1, _), (2, _), (3, _)]) X d_Cp_term_50 (by decide) rfl ?_
      refine V.iinc (lv' := [(0, _), (1, _), (2, _), (3, _)]) X d_Cp_term_51 rfl (show _ + nI 1 = _ from nI_add _ 1) (by decide) rfl ?_
      refine V.goto (tgt := 12) X d_Cp_term_54 (by decide) ?_
      exact ih _ _ (by omega) o4 hres
set_option maxHeartbeats 4000000 in
set_option maxRecDepth 100000 in
theorem c_Cp_ex {l : Launch} {z : Zt} {a u w : Nat → Nat} {P : Pm} {F : Int32} {T : Tk} {m : Nat} {D : Co} {M : Mc} {S : CS} {Rr : CR} (h : Nat) (hlt : l.stackTraces = false) (t : TkOk T m) (o : Ok m S) {f : CS → CR} {d k : Nat} (hk : 3 ≤ k) (hf : ∀ S, RS m S (f S).2) (hF : ∀ (S : CS) (Rr : CR), Ok m S → f S = Rr → XC l (Gz z) (h + k) y_Cp_term b_Cp_term 4 none [.ref (a 2), .int (nI d)] (Wc z a u w P F T D M S) (oc vV Rr.1) (Wr z a u w P F T D M Rr)) (hres : cp_ex T f S = Rr) : XC l (Gz z) (h + k + 1) y_Cp_expression b_Cp_expression 5 none [.ref (a 2), .int (nI d)] (Wc z a u w P F T D M S) (oc vV Rr.1) (Wr z a u w P F T D M Rr) := by
  rw [cp_ex] at hres
  refine XC.ofV (by decide +kernel) rfl ?_
  intro p e s m9 below meth c X hnm
  refine V.lvs (lv' := [(0, .ref (a 2)), (1, .int (nI d))]) rfl ?_
  refine V.aload_n X d_Cp_expression_0 rfl ?_
  refine g_Cp_tokens X k_Cp_12 d_Cp_expression_1 ?_
  refine V.getK X 20 (by decide) k_Cp_251 d_Cp_expression_4 ?_
  by_cases h7 : kd T S.1 = 20
  · first | rw [if_pos h7] at hres | rw [if_neg h7] at hres | skip
    refine V.callV1 X (k_acc_t (S := S) h t o (by decide) h7) Y_Tk_accept k_Cp_84 3 rfl rfl rfl rfl rfl (Rok.lt (by omega)) d_Cp_expression_7 ?_
    have o1 := ok_adv (S := S) t o h7 (by decide)
    refine V.istore_n (lv' := [(0, _), (1, _), (2, _)]) X d_Cp_expression_10 (by decide) rfl ?_
    refine V.aload_n X d_Cp_expression_11 rfl ?_
    refine V.iload_n X d_Cp_expression_12 rfl ?_
    refine V.bd (val := vV) X hres (hF (adv S) _ o1 rfl) Y_Cp_term k_Cp_254 rfl rfl rfl rfl (Rok.lt (by omega)) d_Cp_expression_13 ?_
    intro v2 S2 x2 hres
    have r2 := hf (adv S)
    rw [x2] at r2
    have o2 : Ok m S2 := r2.1 o1
    try dsimp only at hres
    refine V.iload_n X d_Cp_expression_16 rfl ?_
    refine V.ifN_eq (tgt := 32) X d_Cp_expression_17 (by decide) (by decide) (fun h => absurd h (by decide)) (fun _ => ?_)
    refine V.aload_n X d_Cp_expression_20 rfl ?_
    refine g_Cp_code X k_Cp_28 d_Cp_expression_21 ?_
    refine V.bipush (v := nI 7) X d_Cp_expression_24 (by decide +kernel) ?_
    refine V.iconst (v := nI 0) X d_Cp_expression_26 (by decide +kernel) ?_
    refine V.iconst (v := nI 0) X d_Cp_expression_27 (by decide +kernel) ?_
    refine V.callV1 X (k_add (S := S2) h o2) Y_Co_add k_Cp_120 19 rfl rfl rfl rfl rfl (Rok.lt (by omega)) d_Cp_expression_28 ?_
    have o3 : Ok m (cadd S2 7 0 0) := ok_add o2 (by decide)
    refine V.pop X d_Cp_expression_31 rfl ?_
    refine V.iconst (v := nI 0) X d_Cp_expression_32 (by decide +kernel) ?_
    refine V.istore_n (lv' := [(0, _), (1, _), (2, _), (3, _)]) X d_Cp_expression_33 (by decide) rfl ?_
    suffices loop34 : ∀ (n i : Nat) (S : CS), i + n = 150 → Ok m S → cp_sl T f n S = Rr → V p l e (Rm (h + k + 1)) s m9 ([.ref (a 2), .int (nI d)] : List Value).toArray below meth c (Gz z) 5 0 0 (XE below (Gz z) (oc vV Rr.1) (Wr z a u w P F T D M Rr) ([.ref (a 2), .int (nI d)] : List Value).toArray s) (Wc z a u w P F T D M S) 34 [(0, .ref (a 2)), (1, .int (nI d)), (3, .int (nI i))] [] from V.pick [0, 1, 3] (lv' := [(0, .ref (a 2)), (1, .int (nI d)), (3, .int (nI 0))]) rfl (loop34 150 0 _ rfl o3 hres)
    intro n
    induction n with
    | zero =>
      intro i S hi o hres
      refine V.iload_n X d_Cp_expression_34 rfl ?_
      refine V.sipush (v := nI 150) X d_Cp_expression_35 (by decide +kernel) ?_
      refine V.cmpN_ge (tgt := 119) X d_Cp_expression_38 (by decide) (by first | omega | (dsimp only; omega) | (simp only [] at *; omega)) (by first | omega | (dsimp only; omega) | (simp only [] at *; omega)) (fun h38 => ?_) (fun h38 => absurd h38 (by omega))
      subst hres
      exact V.vret X d_Cp_expression_119 rfl rfl
    | succ n ih =>
      intro i S hi o hres
      rw [cp_sl] at hres
      refine V.iload_n X d_Cp_expression_34 rfl ?_
      refine V.sipush (v := nI 150) X d_Cp_expression_35 (by decide +kernel) ?_
      refine V.cmpN_ge (tgt := 119) X d_Cp_expression_38 (by decide) (by first | omega | (dsimp only; omega) | (simp only [] at *; omega)) (by first | omega | (dsimp only; omega) | (simp only [] at *; omega)) (fun h38 => absurd h38 (by omega)) (fun h38 => ?_)
      refine V.aload_n X d_Cp_expression_41 rfl ?_
      refine g_Cp_tokens X k_Cp_12 d_Cp_expression_42 ?_
      refine V.callV1 X (k_kind (S := S) h t o) Y_Tk_kind k_Cp_63 3 rfl rfl rfl rfl rfl (Rok.lt (by omega)) d_Cp_expression_45 ?_
      refine V.getK X 19 (by decide) k_Cp_257 d_Cp_expression_48 ?_
      refine V.acmp_eq (tgt := 67) X d_Cp_expression_51 (by decide) (fun h51 => ?_) (fun h51 => ?_)
      · replace h51 := ek_inj X.kk (t.some o.1).2 (by decide) h51
        first | rw [if_pos h51] at hres | rw [if_neg h51] at hres | skip
        refine V.aload_n X d_Cp_expression_67 rfl ?_
        refine g_Cp_tokens X k_Cp_12 d_Cp_expression_68 ?_
        refine V.callV1 X (k_kind (S := S) h t o) Y_Tk_kind k_Cp_63 3 rfl rfl rfl rfl rfl (Rok.lt (by omega)) d_Cp_expression_71 ?_
        refine V.getK X 19 (by decide) k_Cp_257 d_Cp_expression_74 ?_
        refine V.acmp_ne (tgt := 85) X d_Cp_expression_77 (by decide) (fun h77 => ?_) (fun h77 => ?_)
        · replace h77 : ¬ kd T S.1 = 19 := fun q => h77 (by rw [q])
          exact absurd h51 h77
        · replace h77 := ek_inj X.kk (t.some o.1).2 (by decide) h77
          first | rw [if_pos h77] at hres | rw [if_neg h77] at hres | skip
          refine V.bipush (v := nI 8) X d_Cp_expression_80 (by decide +kernel) ?_
          refine V.goto (tgt := 87) X d_Cp_expression_82 (by decide) ?_
          refine V.istore (lv' := [(0, _), (1, _), (3, _), (4, _)]) X d_Cp_expression_87 (by decide) rfl ?_
          refine V.aload_n X d_Cp_expression_89 rfl ?_
          refine g_Cp_tokens X k_Cp_12 d_Cp_expression_90 ?_
          refine V.callV0 X (k_advance (S := S) h t o) Y_Tk_advance k_Cp_99 3 rfl rfl rfl rfl rfl (Rok.lt (by omega)) d_Cp_expression_93 ?_
          have o4 := ok_adv (S := S) t o h77 (by decide)
          refine V.aload_n X d_Cp_expression_96 rfl ?_
          refine V.iload_n X d_Cp_expression_97 rfl ?_
          refine V.bd (val := vV) X hres (hF (adv S) _ o4 rfl) Y_Cp_term k_Cp_254 rfl rfl rfl rfl (Rok.lt (by omega)) d_Cp_expression_98 ?_
          intro v5 S5 x5 hres
          have r5 := hf (adv S)
          rw [x5] at r5
          have o5 : Ok m S5 := r5.1 o4
          try dsimp only at hres
          refine V.aload_n X d_Cp_expression_101 rfl ?_
          refine g_Cp_code X k_Cp_28 d_Cp_expression_102 ?_
          refine V.iload X d_Cp_expression_105 rfl ?_
          refine V.iconst (v := nI 0) X d_Cp_expression_107 (by decide +kernel) ?_
          refine V.iconst (v := nI 0) X d_Cp_expression_108 (by decide +kernel) ?_
          refine V.callV1 X (k_add (S := S5) h o5) Y_Co_add k_Cp_120 19 rfl rfl rfl rfl rfl (Rok.lt (by omega)) d_Cp_expression_109 ?_
          have o6 : Ok m (cadd S5 8 0 0) := ok_add o5 (by decide)
          refine V.pop X d_Cp_expression_112 rfl ?_
          refine V.iinc (lv' := [(0, _), (1, _), (3, _), (4, _)]) X d_Cp_expression_113 rfl (show _ + nI 1 = _ from nI_add _ 1) (by decide) rfl ?_
          refine V.goto (tgt := 34) X d_Cp_expression_116 (by decide) ?_
          refine V.pick [0, 1, 2] (lv' := [(0, .ref (a 2)), (1, .int (nI d)), (3, .int (nI (i + 1)))]) rfl ?_
          exact ih _ _ (by omega) o6 hres
      · replace h51 : ¬ kd T S.1 = 19 := fun q => h51 (by rw [q])
        first | rw [if_pos h51] at hres | rw [if_neg h51] at hres | skip
        refine V.aload_n X d_Cp_expression_54 rfl ?_
        refine g_Cp_tokens X k_Cp_12 d_Cp_expression_55 ?_
        refine V.callV1 X (k_kind (S := S) h t o) Y_Tk_kind k_Cp_63 3 rfl rfl rfl rfl rfl (Rok.lt (by omega)) d_Cp_expression_58 ?_
        refine V.getK X 20 (by decide) k_Cp_251 d_Cp_expression_61 ?_
        refine V.acmp_ne (tgt := 119) X d_Cp_expression_64 (by decide) (fun h64 => ?_) (fun h64 => ?_)
        · replace h64 : ¬ kd T S.1 = 20 := fun q => h64 (by rw [q])
          first | rw [if_pos h64] at hres | rw [if_neg h64] at hres | skip
          subst hres
          exact V.vret X d_Cp_expression_119 rfl rfl
        · replace h64 := ek_inj X.kk (t.some o.1).2 (by decide) h64
          first | rw [if_pos h64] at hres | rw [if_neg h64] at hres | skip
          refine V.aload_n X d_Cp_expression_67 rfl ?_
          refine g_Cp_tokens X k_Cp_12 d_Cp_expression_68 ?_
          refine V.callV1 X (k_kind (S := S) h t o) Y_Tk_kind k_Cp_63 3 rfl rfl rfl rfl rfl (Rok.lt (by omega)) d_Cp_expression_71 ?_
          refine V.getK X 19 (by decide) k_Cp_257 d_Cp_expression_74 ?_
          refine V.acmp_ne (tgt := 85) X d_Cp_expression_77 (by decide) (fun h77 => ?_) (fun h77 => ?_)
          · replace h77 : ¬ kd T S.1 = 19 := fun q => h77 (by rw [q])
            first | rw [if_pos h77] at hres | rw [if_neg h77] at hres | skip
            refine V.bipush (v := nI 9) X d_Cp_expression_85 (by decide +kernel) ?_
            refine V.istore (lv' := [(0, _), (1, _), (3, _), (4, _)]) X d_Cp_expression_87 (by decide) rfl ?_
            refine V.aload_n X d_Cp_expression_89 rfl ?_
            refine g_Cp_tokens X k_Cp_12 d_Cp_expression_90 ?_
            refine V.callV0 X (k_advance (S := S) h t o) Y_Tk_advance k_Cp_99 3 rfl rfl rfl rfl rfl (Rok.lt (by omega)) d_Cp_expression_93 ?_
            have o7 := ok_adv (S := S) t o h64 (by decide)
            refine V.aload_n X d_Cp_expression_96 rfl ?_
            refine V.iload_n X d_Cp_expression_97 rfl ?_
            refine V.bd (val := vV) X hres (hF (adv S) _ o7 rfl) Y_Cp_term k_Cp_254 rfl rfl rfl rfl (Rok.lt (by omega)) d_Cp_expression_98 ?_
            intro v8 S8 x8 hres
            have r8 := hf (adv S)
            rw [x8] at r8
            have o8 : Ok m S8 := r8.1 o7
            try dsimp only at hres
            refine V.aload_n X d_Cp_expression_101 rfl ?_
            refine g_Cp_code X k_Cp_28 d_Cp_expression_102 ?_
            refine V.iload X d_Cp_expression_105 rfl ?_
            refine V.iconst (v := nI 0) X d_Cp_expression_107 (by decide +kernel) ?_
            refine V.iconst (v := nI 0) X d_Cp_expression_108 (by decide +kernel) ?_
            refine V.callV1 X (k_add (S := S8) h o8) Y_Co_add k_Cp_120 19 rfl rfl rfl rfl rfl (Rok.lt (by omega)) d_Cp_expression_109 ?_
            have o9 : Ok m (cadd S8 9 0 0) := ok_add o8 (by decide)
            refine V.pop X d_Cp_expression_112 rfl ?_
            refine V.iinc (lv' := [(0, _), (1, _), (3, _), (4, _)]) X d_Cp_expression_113 rfl (show _ + nI 1 = _ from nI_add _ 1) (by decide) rfl ?_
            refine V.goto (tgt := 34) X d_Cp_expression_116 (by decide) ?_
            refine V.pick [0, 1, 2] (lv' := [(0, .ref (a 2)), (1, .int (nI d)), (3, .int (nI (i + 1)))]) rfl ?_
            exact ih _ _ (by omega) o9 hres
          · replace h77 := ek_inj X.kk (t.some o.1).2 (by decide) h77
            exact absurd h77 h51
  · first | rw [if_pos h7] at hres | rw [if_neg h7] at hres | skip
    refine V.callV1 X (k_acc_f (S := S) h t o (by decide) h7) Y_Tk_accept k_Cp_84 3 rfl rfl rfl rfl rfl (Rok.lt (by omega)) d_Cp_expression_7 ?_
    refine V.istore_n (lv' := [(0, _), (1, _), (2, _)]) X d_Cp_expression_10 (by decide) rfl ?_
    refine V.aload_n X d_Cp_expression_11 rfl ?_
    refine V.iload_n X d_Cp_expression_12 rfl ?_
    refine V.bd (val := vV) X hres (hF S _ o rfl) Y_Cp_term k_Cp_254 rfl rfl rfl rfl (Rok.lt (by omega)) d_Cp_expression_13 ?_
    intro v10 S10 x10 hres
    have r10 := hf S
    rw [x10] at r10
    have o10 : Ok m S10 := r10.1 o
    try dsimp only at hres
    refine V.iload_n X d_Cp_expression_16 rfl ?_
    refine V.ifN_eq (tgt := 32) X d_Cp_expression_17 (by decide) (by decide) (fun _ => ?_) (fun h => absurd rfl h)
    refine V.iconst (v := nI 0) X d_Cp_expression_32 (by decide +kernel) ?_
    refine V.istore_n (lv' := [(0, _), (1, _), (2, _), (3, _)]) X d_Cp_expression_33 (by decide) rfl ?_
    suffices loop34 : ∀ (n i : Nat) (S : CS), i + n = 150 → Ok m S → cp_sl T f n S = Rr → V p l e (Rm (h + k + 1)) s m9 ([.ref (a 2), .int (nI d)] : List Value).toArray below meth c (Gz z) 5 0 0 (XE below (Gz z) (oc vV Rr.1) (Wr z a u w P F T D M Rr) ([.ref (a 2), .int (nI d)] : List Value).toArray s) (Wc z a u w P F T D M S) 34 [(0, .ref (a 2)), (1, .int (nI d)), (3, .int (nI i))] [] from V.pick [0, 1, 3] (lv' := [(0, .ref (a 2)), (1, .int (nI d)), (3, .int (nI 0))]) rfl (loop34 150 0 _ rfl o10 hres)
    intro n
    induction n with
    | zero =>
      intro i S hi o hres
      refine V.iload_n X d_Cp_expression_34 rfl ?_
      refine V.sipush (v := nI 150) X d_Cp_expression_35 (by decide +kernel) ?_
      refine V.cmpN_ge (tgt := 119) X d_Cp_expression_38 (by decide) (by first | omega | (dsimp only; omega) | (simp only [] at *; omega)) (by first | omega | (dsimp only; omega) | (simp only [] at *; omega)) (fun h38 => ?_) (fun h38 => absurd h38 (by omega))
      subst hres
      exact V.vret X d_Cp_expression_119 rfl rfl
    | succ n ih =>
      intro i S hi o hres
      rw [cp_sl] at hres
      refine V.iload_n X d_Cp_expression_34 rfl ?_
      refine V.sipush (v := nI 150) X d_Cp_expression_35 (by decide +kernel) ?_
      refine V.cmpN_ge (tgt := 119) X d_Cp_expression_38 (by decide) (by first | omega | (dsimp only; omega) | (simp only [] at *; omega)) (by first | omega | (dsimp only; omega) | (simp only [] at *; omega)) (fun h38 => absurd h38 (by omega)) (fun h38 => ?_)
      refine V.aload_n X d_Cp_expression_41 rfl ?_
      refine g_Cp_tokens X k_Cp_12 d_Cp_expression_42 ?_
      refine V.callV1 X (k_kind (S := S) h t o) Y_Tk_kind k_Cp_63 3 rfl rfl rfl rfl rfl (Rok.lt (by omega)) d_Cp_expression_45 ?_
      refine V.getK X 19 (by decide) k_Cp_257 d_Cp_expression_48 ?_
      refine V.acmp_eq (tgt := 67) X d_Cp_expression_51 (by decide) (fun h51 => ?_) (fun h51 => ?_)
      · replace h51 := ek_inj X.kk (t.some o.1).2 (by decide) h51
        first | rw [if_pos h51] at hres | rw [if_neg h51] at hres | skip
        refine V.aload_n X d_Cp_expression_67 rfl ?_
        refine g_Cp_tokens X k_Cp_12 d_Cp_expression_68 ?_
        refine V.callV1 X (k_kind (S := S) h t o) Y_Tk_kind k_Cp_63 3 rfl rfl rfl rfl rfl (Rok.lt (by omega)) d_Cp_expression_71 ?_
        refine V.getK X 19 (by decide) k_Cp_257 d_Cp_expression_74 ?_
        refine V.acmp_ne (tgt := 85) X d_Cp_expression_77 (by decide) (fun h77 => ?_) (fun h77 => ?_)
        · replace h77 : ¬ kd T S.1 = 19 := fun q => h77 (by rw [q])
          exact absurd h51 h77
        · replace h77 := ek_inj X.kk (t.some o.1).2 (by decide) h77
          first | rw [if_pos h77] at hres | rw [if_neg h77] at hres | skip
          refine V.bipush (v := nI 8) X d_Cp_expression_80 (by decide +kernel) ?_
          refine V.goto (tgt := 87) X d_Cp_expression_82 (by decide) ?_
          refine V.istore (lv' := [(0, _), (1, _), (3, _), (4, _)]) X d_Cp_expression_87 (by decide) rfl ?_
          refine V.aload_n X d_Cp_expression_89 rfl ?_
          refine g_Cp_tokens X k_Cp_12 d_Cp_expression_90 ?_
          refine V.callV0 X (k_advance (S := S) h t o) Y_Tk_advance k_Cp_99 3 rfl rfl rfl rfl rfl (Rok.lt (by omega)) d_Cp_expression_93 ?_
          have o11 := ok_adv (S := S) t o h77 (by decide)
          refine V.aload_n X d_Cp_expression_96 rfl ?_
          refine V.iload_n X d_Cp_expression_97 rfl ?_
          refine V.bd (val := vV) X hres (hF (adv S) _ o11 rfl) Y_Cp_term k_Cp_254 rfl rfl rfl rfl (Rok.lt (by omega)) d_Cp_expression_98 ?_
          intro v12 S12 x12 hres
          have r12 := hf (adv S)
          rw [x12] at r12
          have o12 : Ok m S12 := r12.1 o11
          try dsimp only at hres
          refine V.aload_n X d_Cp_expression_101 rfl ?_
          refine g_Cp_code X k_Cp_28 d_Cp_expression_102 ?_
          refine V.iload X d_Cp_expression_105 rfl ?_
          refine V.iconst (v := nI 0) X d_Cp_expression_107 (by decide +kernel) ?_
          refine V.iconst (v := nI 0) X d_Cp_expression_108 (by decide +kernel) ?_
          refine V.callV1 X (k_add (S := S12) h o12) Y_Co_add k_Cp_120 19 rfl rfl rfl rfl rfl (Rok.lt (by omega)) d_Cp_expression_109 ?_
          have o13 : Ok m (cadd S12 8 0 0) := ok_add o12 (by decide)
          refine V.pop X d_Cp_expression_112 rfl ?_
          refine V.iinc (lv' := [(0, _), (1, _), (3, _), (4, _)]) X d_Cp_expression_113 rfl (show _ + nI 1 = _ from nI_add _ 1) (by decide) rfl ?_
          refine V.goto (tgt := 34) X d_Cp_expression_116 (by decide) ?_
          refine V.pick [0, 1, 2] (lv' := [(0, .ref (a 2)), (1, .int (nI d)), (3, .int (nI (i + 1)))]) rfl ?_
          exact ih _ _ (by omega) o13 hres
      · replace h51 : ¬ kd T S.1 = 19 := fun q => h51 (by rw [q])
        first | rw [if_pos h51] at hres | rw [if_neg h51] at hres | skip
        refine V.aload_n X d_Cp_expression_54 rfl ?_
        refine g_Cp_tokens X k_Cp_12 d_Cp_expression_55 ?_
        refine V.callV1 X (k_kind (S := S) h t o) Y_Tk_kind k_Cp_63 3 rfl rfl rfl rfl rfl (Rok.lt (by omega)) d_Cp_expression_58 ?_
        refine V.getK X 20 (by decide) k_Cp_251 d_Cp_expression_61 ?_
        refine V.acmp_ne (tgt := 119) X d_Cp_expression_64 (by decide) (fun h64 => ?_) (fun h64 => ?_)
        · replace h64 : ¬ kd T S.1 = 20 := fun q => h64 (by rw [q])
          first | rw [if_pos h64] at hres | rw [if_neg h64] at hres | skip
          subst hres
          exact V.vret X d_Cp_expression_119 rfl rfl
        · replace h64 := ek_inj X.kk (t.some o.1).2 (by decide) h64
          first | rw [if_pos h64] at hres | rw [if_neg h64] at hres | skip
          refine V.aload_n X d_Cp_expression_67 rfl ?_
          refine g_Cp_tokens X k_Cp_12 d_Cp_expression_68 ?_
          refine V.callV1 X (k_kind (S := S) h t o) Y_Tk_kind k_Cp_63 3 rfl rfl rfl rfl rfl (Rok.lt (by omega)) d_Cp_expression_71 ?_
          refine V.getK X 19 (by decide) k_Cp_257 d_Cp_expression_74 ?_
          refine V.acmp_ne (tgt := 85) X d_Cp_expression_77 (by decide) (fun h77 => ?_) (fun h77 => ?_)
          · replace h77 : ¬ kd T S.1 = 19 := fun q => h77 (by rw [q])
            first | rw [if_pos h77] at hres | rw [if_neg h77] at hres | skip
            refine V.bipush (v := nI 9) X d_Cp_expression_85 (by decide +kernel) ?_
            refine V.istore (lv' := [(0, _), (1, _), (3, _), (4, _)]) X d_Cp_expression_87 (by decide) rfl ?_
            refine V.aload_n X d_Cp_expression_89 rfl ?_
            refine g_Cp_tokens X k_Cp_12 d_Cp_expression_90 ?_
            refine V.callV0 X (k_advance (S := S) h t o) Y_Tk_advance k_Cp_99 3 rfl rfl rfl rfl rfl (Rok.lt (by omega)) d_Cp_expression_93 ?_
            have o14 := ok_adv (S := S) t o h64 (by decide)
            refine V.aload_n X d_Cp_expression_96 rfl ?_
            refine V.iload_n X d_Cp_expression_97 rfl ?_
            refine V.bd (val := vV) X hres (hF (adv S) _ o14 rfl) Y_Cp_term k_Cp_254 rfl rfl rfl rfl (Rok.lt (by omega)) d_Cp_expression_98 ?_
            intro v15 S15 x15 hres
            have r15 := hf (adv S)
            rw [x15] at r15
            have o15 : Ok m S15 := r15.1 o14
            try dsimp only at hres
            refine V.aload_n X d_Cp_expression_101 rfl ?_
            refine g_Cp_code X k_Cp_28 d_Cp_expression_102 ?_
            refine V.iload X d_Cp_expression_105 rfl ?_
            refine V.iconst (v := nI 0) X d_Cp_expression_107 (by decide +kernel) ?_
            refine V.iconst (v := nI 0) X d_Cp_expression_108 (by decide +kernel) ?_
            refine V.callV1 X (k_add (S := S15) h o15) Y_Co_add k_Cp_120 19 rfl rfl rfl rfl rfl (Rok.lt (by omega)) d_Cp_expression_109 ?_
            have o16 : Ok m (cadd S15 9 0 0) := ok_add o15 (by decide)
            refine V.pop X d_Cp_expression_112 rfl ?_
            refine V.iinc (lv' := [(0, _), (1, _), (3, _), (4, _)]) X d_Cp_expression_113 rfl (show _ + nI 1 = _ from nI_add _ 1) (by decide) rfl ?_
            refine V.goto (tgt := 34) X d_Cp_expression_116 (by decide) ?_
            refine V.pick [0, 1, 2] (lv' := [(0, .ref (a 2)), (1, .int (nI d)), (3, .int (nI (i + 1)))]) rfl ?_
            exact ih _ _ (by omega) o16 hres
          · replace h77 := ek_inj X.kk (t.some o.1).2 (by decide) h77
            exact absurd h77 h51
theorem c_Cp_expr {l : Launch} {z : Zt} {a u w : Nat → Nat} {P : Pm} {F : Int32} {T : Tk} {m : Nat} {D : Co} {M : Mc} (h : Nat) (hlt : l.stackTraces = false) (t : TkOk T m) : ∀ (n d : Nat) (S : CS) (Rr : CR), d + n = 8 → Ok m S → cp_expr T n S = Rr → XC l (Gz z) (h + 3 * n + 5) y_Cp_expression b_Cp_expression 5 none [.ref (a 2), .int (nI d)] (Wc z a u w P F T D M S) (oc vV Rr.1) (Wr z a u w P F T D M Rr) := by
  intro n
  induction n with
  | zero =>
    intro d S Rr hd o hres
    cases (show d = 8 from hd)
    rw [cp_expr_eq] at hres
    exact c_Cp_ex (k := 4) h hlt t o (by decide) (rs_term t (rs_fact t (rs_brk t 0))) (fun S Rr o hr => c_Cp_term (k := 3) h hlt t o (by decide) (rs_fact t (rs_brk t 0)) (fun S Rr o hr => c_Cp_fact0 h hlt t o hr) hr) hres
  | succ n ih =>
    intro d S Rr hd o hres
    rw [cp_expr_eq] at hres
    refine c_Cp_ex (k := 3 * n + 7) h hlt t o (by omega) (rs_term t (rs_fact t (rs_brk t (n + 1)))) (fun S Rr o hr => ?_) hres
    refine c_Cp_term (k := 3 * n + 6) h hlt t o (by omega) (rs_fact t (rs_brk t (n + 1))) (fun S Rr o hr => ?_) hr
    exact c_Cp_factS (k := 3 * n + 5) h hlt t o (by omega) hd (fun S Rr o hr => ih (d + 1) S Rr (by omega) o hr) hr
set_option maxHeartbeats 4000000 in
set_option maxRecDepth 100000 in
theorem c_Cp_cond {l : Launch} {z : Zt} {a u w : Nat → Nat} {P : Pm} {F : Int32} {T : Tk} {m : Nat} {D : Co} {M : Mc} {S : CS} {Rr : CR} (h : Nat) (hlt : l.stackTraces = false) (t : TkOk T m) (o : Ok m S)  (hres : cp_cond T S = Rr) : XC l (Gz z) (h + 30) y_Cp_condition b_Cp_condition 2 (some .int) [.ref (a 2)] (Wc z a u w P F T D M S) (oc vI Rr.1) (Wr z a u w P F T D M Rr) := by
  rw [cp_cond] at hres
  refine XC.ofV (by decide +kernel) rfl ?_
  intro p e s m9 below meth c X hnm
  refine V.lvs (lv' := [(0, .ref (a 2))]) rfl ?_
  refine V.aload_n X d_Cp_condition_0 rfl ?_
  refine V.iconst (v := nI 0) X d_Cp_condition_1 (by decide +kernel) ?_
  refine V.bd (val := vV) X hres (c_Cp_expr h hlt t 8 0 S _ rfl o rfl) Y_Cp_expression k_Cp_212 rfl rfl rfl rfl (Rok.lt (by omega)) d_Cp_condition_2 ?_
  intro v1 S1 x1 hres
  have r1 := rs_expr t 8 S
  rw [x1] at r1
  have o1 : Ok m S1 := r1.1 o
  try dsimp only at hres
  refine V.aload_n X d_Cp_condition_5 rfl ?_
  refine V.callV1 X (c_Cp_comparison (S := S1) (h + 1) hlt t o1) Y_Cp_comparison k_Cp_248 2 rfl rfl rfl rfl rfl (Rok.lt (by omega)) d_Cp_condition_6 ?_
  refine V.istore_n (lv' := [(0, _), (1, _)]) X d_Cp_condition_9 (by decide) rfl ?_
  refine V.iload_n X d_Cp_condition_10 rfl ?_
  rcases hm : cmpop (kd T S1.1) with _ | x
  · rw [hm] at hres
    dsimp only at hres
    refine V.eqs (sk' := [.int (-1)]) rfl ?_
    refine V.if_ge (tgt := 25) X d_Cp_condition_11 (by decide) (fun h => absurd h (by decide)) (fun _ => ?_)
    refine V.aload_n X d_Cp_condition_14 rfl ?_
    refine V.aload_n X d_Cp_condition_15 rfl ?_
    refine g_Cp_tokens X k_Cp_12 d_Cp_condition_16 ?_
    refine V.callV1 X (k_place (S := S1) h t o1) Y_Tk_place k_Cp_70 3 rfl rfl rfl rfl rfl (Rok.lt (by omega)) d_Cp_condition_19 ?_
    subst hres
    exact V.callVX X (c_Cp_refuse (S := S1) h hlt) Y_Cp_refuse k_Cp_74 2 rfl rfl rfl rfl rfl (Rok.lt (by omega)) d_Cp_condition_22 rfl rfl
  · rw [hm] at hres
    dsimp only at hres
    have hx2 := (cmpop_lt hm).2
    refine V.eqs (sk' := [.int (nI x)]) rfl ?_
    refine V.lvs (lv' := [(0, .ref (a 2)), (1, .int (nI x))]) rfl ?_
    refine V.ifN_ge (tgt := 25) X d_Cp_condition_11 (by decide) (by omega) ?_
    refine V.aload_n X d_Cp_condition_25 rfl ?_
    refine g_Cp_tokens X k_Cp_12 d_Cp_condition_26 ?_
    refine V.callV0 X (k_advance (S := S1) h t o1) Y_Tk_advance k_Cp_99 3 rfl rfl rfl rfl rfl (Rok.lt (by omega)) d_Cp_condition_29 ?_
    have o2 := ok_adv (S := S1) t o1 rfl (cmpop_lt hm).1
    refine V.aload_n X d_Cp_condition_32 rfl ?_
    refine V.iconst (v := nI 0) X d_Cp_condition_33 (by decide +kernel) ?_
    refine V.bd (val := vV) X hres (c_Cp_expr h hlt t 8 0 (adv S1) _ rfl o2 rfl) Y_Cp_expression k_Cp_212 rfl rfl rfl rfl (Rok.lt (by omega)) d_Cp_condition_34 ?_
    intro v3 S3 x3 hres
    have r3 := rs_expr t 8 (adv S1)
    rw [x3] at r3
    have o3 : Ok m S3 := r3.1 o2
    try dsimp only at hres
    refine V.aload_n X d_Cp_condition_37 rfl ?_
    refine g_Cp_code X k_Cp_28 d_Cp_condition_38 ?_
    refine V.iload_n X d_Cp_condition_41 rfl ?_
    refine V.iconst (v := nI 0) X d_Cp_condition_42 (by decide +kernel) ?_
    refine V.iconst (v := nI 0) X d_Cp_condition_43 (by decide +kernel) ?_
    refine V.callV1 X (k_add (S := S3) h o3) Y_Co_add k_Cp_120 19 rfl rfl rfl rfl rfl (Rok.lt (by omega)) d_Cp_condition_44 ?_
    have o4 : Ok m (cadd S3 x 0 0) := ok_add o3 hx2
    refine V.pop X d_Cp_condition_47 rfl ?_
    refine V.aload_n X d_Cp_condition_48 rfl ?_
    refine g_Cp_code X k_Cp_28 d_Cp_condition_49 ?_
    refine V.bipush (v := nI 17) X d_Cp_condition_52 (by decide +kernel) ?_
    refine V.iconst (v := nI 0) X d_Cp_condition_54 (by decide +kernel) ?_
    refine V.iconst (v := nI 0) X d_Cp_condition_55 (by decide +kernel) ?_
    refine V.callV1 X (k_add (S := (cadd S3 x 0 0)) h o4) Y_Co_add k_Cp_120 19 rfl rfl rfl rfl rfl (Rok.lt (by omega)) d_Cp_condition_56 ?_
    have o5 : Ok m (cadd (cadd S3 x 0 0) 17 0 0) := ok_add o4 (by decide)
    subst hres
    exact V.iret X d_Cp_condition_59 rfl rfl
set_option maxHeartbeats 4000000 in
set_option maxRecDepth 100000 in
theorem c_Cp_write {l : Launch} {z : Zt} {a u w : Nat → Nat} {P : Pm} {F : Int32} {T : Tk} {m : Nat} {D : Co} {M : Mc} {S : CS} {Rr : CR} (h : Nat) (hlt : l.stackTraces = false) (t : TkOk T m) (o : Ok m S)  (hres : cp_write T S = Rr) : XC l (Gz z) (h + 30) y_Cp_writeStatement b_Cp_writeStatement 1 none [.ref (a 2)] (Wc z a u w P F T D M S) (oc vV Rr.1) (Wr z a u w P F T D M Rr) := by
  rw [cp_write] at hres
  refine XC.ofV (by decide +kernel) rfl ?_
  intro p e s m9 below meth c X hnm
  refine V.lvs (lv' := [(0, .ref (a 2))]) rfl ?_
  refine V.aload_n X d_Cp_writeStatement_0 rfl ?_
  refine g_Cp_code X k_Cp_28 d_Cp_writeStatement_1 ?_
  refine V.iconst (v := nI 0) X d_Cp_writeStatement_4 (by decide +kernel) ?_
  refine V.iconst (v := nI 0) X d_Cp_writeStatement_5 (by decide +kernel) ?_
  refine V.iconst (v := nI 0) X d_Cp_writeStatement_6 (by decide +kernel) ?_
  refine V.callV1 X (k_add (S := S) h o) Y_Co_add k_Cp_120 19 rfl rfl rfl rfl rfl (Rok.lt (by omega)) d_Cp_writeStatement_7 ?_
  have o1 : Ok m (cadd S 0 0 0) := ok_add o (by decide)
  refine V.pop X d_Cp_writeStatement_10 rfl ?_
  refine V.aload_n X d_Cp_writeStatement_11 rfl ?_
  refine V.getK X 13 (by decide) k_Cp_146 d_Cp_writeStatement_12 ?_
  refine V.bd (val := vV) X hres (c_Cp_expect (S := (cadd S 0 0 0)) h hlt t o1 (q := 13) (by decide) rfl) Y_Cp_expect k_Cp_59 rfl rfl rfl rfl (Rok.lt (by omega)) d_Cp_writeStatement_15 ?_
  intro v2 S2 x2 hres
  have r2 := rs_expect (q := 13) t (by decide) (cadd S 0 0 0)
  rw [x2] at r2
  have o2 : Ok m S2 := r2.1 o1
  try dsimp only at hres
  refine V.aload_n X d_Cp_writeStatement_18 rfl ?_
  refine V.iconst (v := nI 0) X d_Cp_writeStatement_19 (by decide +kernel) ?_
  refine V.bd (val := vV) X hres (c_Cp_expr h hlt t 8 0 S2 _ rfl o2 rfl) Y_Cp_expression k_Cp_212 rfl rfl rfl rfl (Rok.lt (by omega)) d_Cp_writeStatement_20 ?_
  intro v3 S3 x3 hres
  have r3 := rs_expr t 8 S2
  rw [x3] at r3
  have o3 : Ok m S3 := r3.1 o2
  try dsimp only at hres
  refine V.aload_n X d_Cp_writeStatement_23 rfl ?_
  refine V.getK X 14 (by decide) k_Cp_160 d_Cp_writeStatement_24 ?_
  refine V.bd (val := vV) X hres (c_Cp_expect (S := S3) h hlt t o3 (q := 14) (by decide) rfl) Y_Cp_expect k_Cp_59 rfl rfl rfl rfl (Rok.lt (by omega)) d_Cp_writeStatement_27 ?_
  intro v4 S4 x4 hres
  have r4 := rs_expect (q := 14) t (by decide) S3
  rw [x4] at r4
  have o4 : Ok m S4 := r4.1 o3
  try dsimp only at hres
  refine V.aload_n X d_Cp_writeStatement_30 rfl ?_
  refine g_Cp_code X k_Cp_28 d_Cp_writeStatement_31 ?_
  refine V.bipush (v := nI 20) X d_Cp_writeStatement_34 (by decide +kernel) ?_
  refine V.iconst (v := nI 0) X d_Cp_writeStatement_36 (by decide +kernel) ?_
  refine V.iconst (v := nI 0) X d_Cp_writeStatement_37 (by decide +kernel) ?_
  refine V.callV1 X (k_add (S := S4) h o4) Y_Co_add k_Cp_120 19 rfl rfl rfl rfl rfl (Rok.lt (by omega)) d_Cp_writeStatement_38 ?_
  have o5 : Ok m (cadd S4 20 0 0) := ok_add o4 (by decide)
  refine V.pop X d_Cp_writeStatement_41 rfl ?_
  subst hres
  exact V.vret X d_Cp_writeStatement_42 rfl rfl
set_option maxHeartbeats 4000000 in
set_option maxRecDepth 100000 in
theorem c_Cp_assign {l : Launch} {z : Zt} {a u w : Nat → Nat} {P : Pm} {F : Int32} {T : Tk} {m : Nat} {D : Co} {M : Mc} {S : CS} {Rr : CR} (h : Nat) (hlt : l.stackTraces = false) (t : TkOk T m) (o : Ok m S) (h25 : kd T S.1 = 25) (hres : cp_assign T S = Rr) : XC l (Gz z) (h + 30) y_Cp_assignment b_Cp_assignment 3 none [.ref (a 2)] (Wc z a u w P F T D M S) (oc vV Rr.1) (Wr z a u w P F T D M Rr) := by
  rw [cp_assign] at hres
  refine XC.ofV (by decide +kernel) rfl ?_
  intro p e s m9 below meth c X hnm
  refine V.lvs (lv' := [(0, .ref (a 2))]) rfl ?_
  refine V.aload_n X d_Cp_assignment_0 rfl ?_
  refine g_Cp_names X k_Cp_21 d_Cp_assignment_1 ?_
  refine V.aload_n X d_Cp_assignment_4 rfl ?_
  refine g_Cp_tokens X k_Cp_12 d_Cp_assignment_5 ?_
  refine V.callV1 X (k_content (S := S) h t o) Y_Tk_content k_Cp_91 3 rfl rfl rfl rfl rfl (Rok.lt (by omega)) d_Cp_assignment_8 ?_
  rcases f11 : nm_find S.2.1 (T.2.2.1 S.1) with _ | i11
  · rw [f11] at hres
    dsimp only at hres
    refine V.callV1 X (k_find_none (S := S) h o f11) Y_Nm_find k_Cp_204 7 rfl rfl rfl rfl rfl (Rok.lt (by omega)) d_Cp_assignment_11 ?_
    refine V.istore_n (lv' := [(0, _), (1, _)]) X d_Cp_assignment_14 (by decide) rfl ?_
    refine V.iload_n X d_Cp_assignment_15 rfl ?_
    refine V.if_lt (tgt := 30) X d_Cp_assignment_16 (by decide) (fun _ => ?_) (fun h => absurd (by decide) h)
    refine V.aload_n X d_Cp_assignment_30 rfl ?_
    refine V.aload_n X d_Cp_assignment_31 rfl ?_
    refine g_Cp_tokens X k_Cp_12 d_Cp_assignment_32 ?_
    refine V.callV1 X (k_place (S := S) h t o) Y_Tk_place k_Cp_70 3 rfl rfl rfl rfl rfl (Rok.lt (by omega)) d_Cp_assignment_35 ?_
    subst hres
    exact V.callVX X (c_Cp_refuse (S := S) h hlt) Y_Cp_refuse k_Cp_74 2 rfl rfl rfl rfl rfl (Rok.lt (by omega)) d_Cp_assignment_38 rfl rfl
  · rw [f11] at hres
    dsimp only at hres
    obtain ⟨b11, c11⟩ := fnd18 o f11
    refine V.callV1 X (k_find_some (S := S) h o f11) Y_Nm_find k_Cp_204 7 rfl rfl rfl rfl rfl (Rok.lt (by omega)) d_Cp_assignment_11 ?_
    refine V.istore_n (lv' := [(0, _), (1, _)]) X d_Cp_assignment_14 (by decide) rfl ?_
    refine V.iload_n X d_Cp_assignment_15 rfl ?_
    refine V.ifN_lt (tgt := 30) X d_Cp_assignment_16 (by decide) (by first | omega | (dsimp only; omega) | (simp only [] at *; omega)) ?_
    refine V.aload_n X d_Cp_assignment_19 rfl ?_
    refine g_Cp_names X k_Cp_21 d_Cp_assignment_20 ?_
    refine V.iload_n X d_Cp_assignment_23 rfl ?_
    refine V.callV1 X (k_isProcedure (S := S) h o b11) Y_Nm_isProcedure k_Cp_208 7 rfl rfl rfl rfl rfl (Rok.lt (by omega)) d_Cp_assignment_24 ?_
    refine V.ifB_eq (tgt := 41) X d_Cp_assignment_27 (by decide) (fun h27 => ?_) (fun h27 => ?_)
    · replace h27 := of_decide_eq_false h27
      first | rw [if_pos h27] at hres | rw [if_neg h27] at hres | skip
      refine V.aload_n X d_Cp_assignment_41 rfl ?_
      refine g_Cp_code X k_Cp_28 d_Cp_assignment_42 ?_
      refine V.iconst (v := nI 0) X d_Cp_assignment_45 (by decide +kernel) ?_
      refine V.iconst (v := nI 0) X d_Cp_assignment_46 (by decide +kernel) ?_
      refine V.iconst (v := nI 0) X d_Cp_assignment_47 (by decide +kernel) ?_
      refine V.callV1 X (k_add (S := S) h o) Y_Co_add k_Cp_120 19 rfl rfl rfl rfl rfl (Rok.lt (by omega)) d_Cp_assignment_48 ?_
      have o1 : Ok m (cadd S 0 0 0) := ok_add o (by decide)
      refine V.pop X d_Cp_assignment_51 rfl ?_
      refine V.aload_n X d_Cp_assignment_52 rfl ?_
      refine g_Cp_tokens X k_Cp_12 d_Cp_assignment_53 ?_
      refine V.callV0 X (k_advance (S := (cadd S 0 0 0)) h t o1) Y_Tk_advance k_Cp_99 3 rfl rfl rfl rfl rfl (Rok.lt (by omega)) d_Cp_assignment_56 ?_
      have o2 := ok_adv (S := (cadd S 0 0 0)) t o1 h25 (by decide)
      refine V.aload_n X d_Cp_assignment_59 rfl ?_
      refine V.getK X 10 (by decide) k_Cp_180 d_Cp_assignment_60 ?_
      refine V.bd (val := vV) X hres (c_Cp_expect (S := (adv (cadd S 0 0 0))) h hlt t o2 (q := 10) (by decide) rfl) Y_Cp_expect k_Cp_59 rfl rfl rfl rfl (Rok.lt (by omega)) d_Cp_assignment_63 ?_
      intro v3 S3 x3 hres
      have r3 := rs_expect (q := 10) t (by decide) (adv (cadd S 0 0 0))
      rw [x3] at r3
      have o3 : Ok m S3 := r3.1 o2
      have c3 : S3.2.1.2.2.1 i11 ≤ S3.2.1.2.2.2.2.2.2.1 := by rw [show S3.2.1 = (adv (cadd S 0 0 0)).2.1 from r3.2]; exact c11
      try dsimp only at hres
      refine V.aload_n X d_Cp_assignment_66 rfl ?_
      refine V.iconst (v := nI 0) X d_Cp_assignment_67 (by decide +kernel) ?_
      refine V.bd (val := vV) X hres (c_Cp_expr h hlt t 8 0 S3 _ rfl o3 rfl) Y_Cp_expression k_Cp_212 rfl rfl rfl rfl (Rok.lt (by omega)) d_Cp_assignment_68 ?_
      intro v4 S4 x4 hres
      have r4 := rs_expr t 8 S3
      rw [x4] at r4
      have o4 : Ok m S4 := r4.1 o3
      have c4 : S4.2.1.2.2.1 i11 ≤ S4.2.1.2.2.2.2.2.2.1 := by rw [show S4.2.1 = S3.2.1 from r4.2]; exact c3
      try dsimp only at hres
      refine V.aload_n X d_Cp_assignment_71 rfl ?_
      refine g_Cp_names X k_Cp_21 d_Cp_assignment_72 ?_
      refine V.iload_n X d_Cp_assignment_75 rfl ?_
      refine V.callV1 X (k_isReference (S := S4) h o4 b11) Y_Nm_isReference k_Cp_215 7 rfl rfl rfl rfl rfl (Rok.lt (by omega)) d_Cp_assignment_76 ?_
      refine V.ifB_eq (tgt := 87) X d_Cp_assignment_79 (by decide) (fun h79 => ?_) (fun h79 => ?_)
      · replace h79 := of_decide_eq_false h79
        first | rw [if_pos h79] at hres | rw [if_neg h79] at hres | skip
        refine V.iconst (v := nI 5) X d_Cp_assignment_87 (by decide +kernel) ?_
        refine V.istore_n (lv' := [(0, _), (1, _), (2, _)]) X d_Cp_assignment_88 (by decide) rfl ?_
        refine V.aload_n X d_Cp_assignment_89 rfl ?_
        refine g_Cp_code X k_Cp_28 d_Cp_assignment_90 ?_
        refine V.iload_n X d_Cp_assignment_93 rfl ?_
        refine V.aload_n X d_Cp_assignment_94 rfl ?_
        refine g_Cp_names X k_Cp_21 d_Cp_assignment_95 ?_
        refine V.iload_n X d_Cp_assignment_98 rfl ?_
        refine V.callV1 X (k_hops (S := S4) h o4 b11 c4) Y_Nm_hops k_Cp_218 7 rfl rfl rfl rfl rfl (Rok.lt (by omega)) d_Cp_assignment_99 ?_
        refine V.aload_n X d_Cp_assignment_102 rfl ?_
        refine g_Cp_names X k_Cp_21 d_Cp_assignment_103 ?_
        refine V.iload_n X d_Cp_assignment_106 rfl ?_
        refine V.callV1 X (k_number (m := m) (S := S4) h b11) Y_Nm_number k_Cp_221 7 rfl rfl rfl rfl rfl (Rok.lt (by omega)) d_Cp_assignment_107 ?_
        refine V.callV1 X (k_add (S := S4) h o4) Y_Co_add k_Cp_120 19 rfl rfl rfl rfl rfl (Rok.lt (by omega)) d_Cp_assignment_110 ?_
        have o5 : Ok m (cadd S4 5 (S4.2.1.2.2.2.2.2.2.1 - S4.2.1.2.2.1 i11) (S4.2.1.2.2.2.1 i11)) := ok_add o4 (by decide)
        refine V.pop X d_Cp_assignment_113 rfl ?_
        subst hres
        exact V.vret X d_Cp_assignment_114 rfl rfl
      · replace h79 := of_decide_eq_true h79
        first | rw [if_pos h79] at hres | rw [if_neg h79] at hres | skip
        refine V.bipush (v := nI 6) X d_Cp_assignment_82 (by decide +kernel) ?_
        refine V.goto (tgt := 88) X d_Cp_assignment_84 (by decide) ?_
        refine V.istore_n (lv' := [(0, _), (1, _), (2, _)]) X d_Cp_assignment_88 (by decide) rfl ?_
        refine V.aload_n X d_Cp_assignment_89 rfl ?_
        refine g_Cp_code X k_Cp_28 d_Cp_assignment_90 ?_
        refine V.iload_n X d_Cp_assignment_93 rfl ?_
        refine V.aload_n X d_Cp_assignment_94 rfl ?_
        refine g_Cp_names X k_Cp_21 d_Cp_assignment_95 ?_
        refine V.iload_n X d_Cp_assignment_98 rfl ?_
        refine V.callV1 X (k_hops (S := S4) h o4 b11 c4) Y_Nm_hops k_Cp_218 7 rfl rfl rfl rfl rfl (Rok.lt (by omega)) d_Cp_assignment_99 ?_
        refine V.aload_n X d_Cp_assignment_102 rfl ?_
        refine g_Cp_names X k_Cp_21 d_Cp_assignment_103 ?_
        refine V.iload_n X d_Cp_assignment_106 rfl ?_
        refine V.callV1 X (k_number (m := m) (S := S4) h b11) Y_Nm_number k_Cp_221 7 rfl rfl rfl rfl rfl (Rok.lt (by omega)) d_Cp_assignment_107 ?_
        refine V.callV1 X (k_add (S := S4) h o4) Y_Co_add k_Cp_120 19 rfl rfl rfl rfl rfl (Rok.lt (by omega)) d_Cp_assignment_110 ?_
        have o6 : Ok m (cadd S4 6 (S4.2.1.2.2.2.2.2.2.1 - S4.2.1.2.2.1 i11) (S4.2.1.2.2.2.1 i11)) := ok_add o4 (by decide)
        refine V.pop X d_Cp_assignment_113 rfl ?_
        subst hres
        exact V.vret X d_Cp_assignment_114 rfl rfl
    · replace h27 := of_decide_eq_true h27
      first | rw [if_pos h27] at hres | rw [if_neg h27] at hres | skip
      refine V.aload_n X d_Cp_assignment_30 rfl ?_
      refine V.aload_n X d_Cp_assignment_31 rfl ?_
      refine g_Cp_tokens X k_Cp_12 d_Cp_assignment_32 ?_
      refine V.callV1 X (k_place (S := S) h t o) Y_Tk_place k_Cp_70 3 rfl rfl rfl rfl rfl (Rok.lt (by omega)) d_Cp_assignment_35 ?_
      subst hres
      exact V.callVX X (c_Cp_refuse (S := S) h hlt) Y_Cp_refuse k_Cp_74 2 rfl rfl rfl rfl rfl (Rok.lt (by omega)) d_Cp_assignment_38 rfl rfl
