theorem al_le {T : Tk} {q : Nat} : ∀ (n r : Nat) (S : CS) (v : Nat) (S1 : CS), r + n = 150 → cp_al T q n r S = (.inr v, S1) → v ≤ 150 := by
  have ex : ∀ (r : Nat) (S : CS) (v : Nat) (S1 : CS), bd (cp_expect T 14) (fun _ => cret r) S = (.inr v, S1) → v = r := by
    intro r S v S1 h
    rcases hx : cp_expect T 14 S with ⟨p | w, S2⟩
    · rw [bd_no hx] at h; cases h
    · rw [bd_ok hx] at h; cases h; rfl
  intro n
  induction n with
  | zero => intro r S v S1 hr h; have := ex r S v S1 h; omega
  | succ n ih =>
    intro r S v S1 hr h
    rw [cp_al] at h
    rcases hx : cp_expr T 8 S with ⟨p | w, S2⟩
    · rw [bd_no hx] at h; cases h
    · rw [bd_ok hx] at h
      split at h
      · split at h
        · split at h
          · exact ih _ _ _ _ (by omega) h
          · have := ex _ _ _ _ h; omega
        · cases h
      · split at h
        · exact ih _ _ _ _ (by omega) h
        · have := ex _ _ _ _ h; omega
theorem args_le {T : Tk} {q : Nat} {S S1 : CS} {v : Nat} (h : cp_args T q S = (.inr v, S1)) : v ≤ 150 := by
  rw [cp_args] at h
  split at h
  · exact al_le _ _ _ _ _ rfl h
  · cases h; omega
theorem cond_le {T : Tk} {m : Nat} (t : TkOk T m) {S S1 : CS} {v : Nat} (o : Ok m S) (h : cp_cond T S = (.inr v, S1)) : v ≤ 300 := by
  rw [cp_cond] at h
  rcases hx : cp_expr T 8 S with ⟨p | w, S2⟩
  · rw [bd_no hx] at h; cases h
  · rw [bd_ok hx] at h
    have r1 := rs_expr t 8 S
    rw [hx] at r1
    split at h
    · cases h
    · rename_i x hm
      rcases hx2 : cp_expr T 8 (adv S2) with ⟨p | w, S3⟩
      · rw [bd_no hx2] at h; cases h
      · rw [bd_ok hx2] at h
        cases h
        have r2 := rs_expr t 8 (adv S2)
        rw [hx2] at r2
        exact (ok_add (r2.1 (ok_adv t (r1.1 o) rfl (cmpop_lt hm).1)) (cmpop_lt hm).2).2.2.1
theorem bd_pHead_t {T : Tk} {q : Nat} {g : Nat → CS → CR} {S : CS} (h : kd T S.1 = 13) : bd (cp_pHead T q) g S = bd (cp_pars T q) (fun _ => bd (cp_expect T 11) g) (adv S) := by
  rw [← bd_assoc]
  unfold bd
  rw [cp_pHead, if_pos h]
  rfl
theorem bd_pHead_f {T : Tk} {q : Nat} {g : Nat → CS → CR} {S : CS} (h : ¬ kd T S.1 = 13) : bd (cp_pHead T q) g S = bd (cp_expect T 11) g S := by
  unfold bd
  rw [cp_pHead, if_neg h]
set_option maxHeartbeats 4000000 in
set_option maxRecDepth 100000 in
theorem c_Cp_args {l : Launch} {z : Zt} {a u w : Nat → Nat} {P : Pm} {F : Int32} {T : Tk} {m : Nat} {D : Co} {M : Mc} {S : CS} {Rr : CR} (h : Nat) (hlt : l.stackTraces = false) (t : TkOk T m) (o : Ok m S) {q : Nat} (hq : q < 6) (hres : cp_args T q S = Rr) : XC l (Gz z) (h + 30) y_Cp_arguments b_Cp_arguments 7 (some .int) [.ref (a 2), .int (nI q)] (Wc z a u w P F T D M S) (oc vI Rr.1) (Wr z a u w P F T D M Rr) := by
  rw [cp_args] at hres
  refine XC.ofV (by decide +kernel) rfl ?_
  intro p e s m9 below meth c X hnm
  refine V.lvs (lv' := [(0, .ref (a 2)), (1, .int (nI q))]) rfl ?_
  refine V.aload_n X d_Cp_arguments_0 rfl ?_
  refine g_Cp_tokens X k_Cp_12 d_Cp_arguments_1 ?_
  refine V.getK X 13 (by decide) k_Cp_146 d_Cp_arguments_4 ?_
  by_cases h7 : kd T S.1 = 13
  · first | rw [if_pos h7] at hres | rw [if_neg h7] at hres | skip
    refine V.callV1 X (k_acc_t (S := S) h t o (by decide) h7) Y_Tk_accept k_Cp_84 3 rfl rfl rfl rfl rfl (Rok.lt (by omega)) d_Cp_arguments_7 ?_
    have o1 := ok_adv (S := S) t o h7 (by decide)
    refine V.ifN_ne (tgt := 15) X d_Cp_arguments_10 (by decide) (by decide) (fun _ => ?_) (fun h => absurd h (by decide))
    refine V.iconst (v := nI 0) X d_Cp_arguments_15 (by decide +kernel) ?_
    refine V.istore_n (lv' := [(0, _), (1, _), (2, _)]) X d_Cp_arguments_16 (by decide) rfl ?_
    refine V.iconst (v := nI 1) X d_Cp_arguments_17 (by decide +kernel) ?_
    refine V.istore_n (lv' := [(0, _), (1, _), (2, _), (3, _)]) X d_Cp_arguments_18 (by decide) rfl ?_
    suffices loop19 : ∀ (n r : Nat) (S : CS), r + n = 150 → Ok m S → cp_al T q n r S = Rr → V p l e (Rm (h + 30)) s m9 ([.ref (a 2), .int (nI q)] : List Value).toArray below meth c (Gz z) 7 0 0 (XE below (Gz z) (oc vI Rr.1) (Wr z a u w P F T D M Rr) ([.ref (a 2), .int (nI q)] : List Value).toArray s) (Wc z a u w P F T D M S) 19 [(0, .ref (a 2)), (1, .int (nI q)), (2, .int (nI r)), (3, .int (nI 1))] [] from loop19 150 0 _ rfl o1 hres
    intro n
    induction n with
    | zero =>
      intro r S hi o hres
      rw [cp_al] at hres
      refine V.iload_n X d_Cp_arguments_19 rfl ?_
      refine V.ifN_eq (tgt := 136) X d_Cp_arguments_20 (by decide) (by decide) (fun h => absurd h (by decide)) (fun _ => ?_)
      refine V.iload_n X d_Cp_arguments_23 rfl ?_
      refine V.sipush (v := nI 150) X d_Cp_arguments_24 (by decide +kernel) ?_
      refine V.cmpN_ge (tgt := 136) X d_Cp_arguments_27 (by decide) (by first | omega | (dsimp only; omega) | (simp only [] at *; omega)) (by first | omega | (dsimp only; omega) | (simp only [] at *; omega)) (fun h27 => ?_) (fun h27 => absurd h27 (by omega))
      refine V.aload_n X d_Cp_arguments_136 rfl ?_
      refine V.getK X 14 (by decide) k_Cp_160 d_Cp_arguments_137 ?_
      refine V.bd (val := vV) X hres (c_Cp_expect (S := S) h hlt t o (q := 14) (by decide) rfl) Y_Cp_expect k_Cp_59 rfl rfl rfl rfl (Rok.lt (by omega)) d_Cp_arguments_140 ?_
      intro v2 S2 x2 hres
      have r2 := rs_expect (q := 14) t (by decide) S
      rw [x2] at r2
      have o2 : Ok m S2 := r2.1 o
      try dsimp only at hres
      refine V.iload_n X d_Cp_arguments_143 rfl ?_
      subst hres
      exact V.iret X d_Cp_arguments_144 rfl rfl
    | succ n ih =>
      intro r S hi o hres
      rw [cp_al] at hres
      refine V.iload_n X d_Cp_arguments_19 rfl ?_
      refine V.ifN_eq (tgt := 136) X d_Cp_arguments_20 (by decide) (by decide) (fun h => absurd h (by decide)) (fun _ => ?_)
      refine V.iload_n X d_Cp_arguments_23 rfl ?_
      refine V.sipush (v := nI 150) X d_Cp_arguments_24 (by decide +kernel) ?_
      refine V.cmpN_ge (tgt := 136) X d_Cp_arguments_27 (by decide) (by first | omega | (dsimp only; omega) | (simp only [] at *; omega)) (by first | omega | (dsimp only; omega) | (simp only [] at *; omega)) (fun h27 => absurd h27 (by omega)) (fun h27 => ?_)
      refine V.aload_n X d_Cp_arguments_30 rfl ?_
      refine g_Cp_tokens X k_Cp_12 d_Cp_arguments_31 ?_
      refine V.callV1 X (k_kind (S := S) h t o) Y_Tk_kind k_Cp_63 3 rfl rfl rfl rfl rfl (Rok.lt (by omega)) d_Cp_arguments_34 ?_
      refine V.getK X 25 (by decide) k_Cp_88 d_Cp_arguments_37 ?_
      refine V.acmp_ne (tgt := 47) X d_Cp_arguments_40 (by decide) (fun h40 => ?_) (fun h40 => ?_)
      · replace h40 : ¬ kd T S.1 = 25 := fun q => h40 (by rw [q])
        refine V.iconst (v := nI 0) X d_Cp_arguments_47 (by decide +kernel) ?_
        refine V.istore (lv' := [(0, _), (1, _), (2, _), (3, _), (4, _)]) X d_Cp_arguments_48 (by decide) rfl ?_
        refine V.aload_n X d_Cp_arguments_50 rfl ?_
        refine g_Cp_tokens X k_Cp_12 d_Cp_arguments_51 ?_
        refine V.callV1 X (k_place (S := S) h t o) Y_Tk_place k_Cp_70 3 rfl rfl rfl rfl rfl (Rok.lt (by omega)) d_Cp_arguments_54 ?_
        refine V.istore (lv' := [(0, _), (1, _), (2, _), (3, _), (4, _), (5, _)]) X d_Cp_arguments_57 (by decide) rfl ?_
        refine V.aload_n X d_Cp_arguments_59 rfl ?_
        refine g_Cp_code X k_Cp_28 d_Cp_arguments_60 ?_
        refine g_Co_size X k_Cp_43 d_Cp_arguments_63 ?_
        refine V.istore (lv' := [(0, _), (1, _), (2, _), (3, _), (4, _), (5, _), (6, _)]) X d_Cp_arguments_66 (by decide) rfl ?_
        refine V.aload_n X d_Cp_arguments_68 rfl ?_
        refine V.iconst (v := nI 0) X d_Cp_arguments_69 (by decide +kernel) ?_
        refine V.bd (val := vV) X hres (c_Cp_expr h hlt t 8 0 S _ rfl o rfl) Y_Cp_expression k_Cp_212 rfl rfl rfl rfl (Rok.lt (by omega)) d_Cp_arguments_70 ?_
        intro v3 S3 x3 hres
        have r3 := rs_expr t 8 S
        rw [x3] at r3
        have o3 : Ok m S3 := r3.1 o
        try dsimp only at hres
        have hs1 := o.2.2.1
        have hs2 := o3.2.2.1
        refine V.aload_n X d_Cp_arguments_73 rfl ?_
        refine g_Cp_code X k_Cp_28 d_Cp_arguments_74 ?_
        refine V.iload_n X d_Cp_arguments_77 rfl ?_
        refine V.iload_n X d_Cp_arguments_78 rfl ?_
        refine V.callV1 X (k_isRef (S := S3) h o3 hq (by omega)) Y_Co_isReference k_Cp_227 19 rfl rfl rfl rfl rfl (Rok.lt (by omega)) d_Cp_arguments_79 ?_
        refine V.ifB_eq (tgt := 119) X d_Cp_arguments_82 (by decide) (fun h82 => ?_) (fun h82 => ?_)
        · rw [if_neg (by rw [h82]; decide)] at hres
          refine V.iinc (lv' := [(0, _), (1, _), (2, _), (3, _), (4, _), (5, _), (6, _)]) X d_Cp_arguments_119 rfl (show _ + nI 1 = _ from nI_add _ 1) (by decide) rfl ?_
          refine V.aload_n X d_Cp_arguments_122 rfl ?_
          refine g_Cp_tokens X k_Cp_12 d_Cp_arguments_123 ?_
          refine V.getK X 12 (by decide) k_Cp_127 d_Cp_arguments_126 ?_
          by_cases h129 : kd T S3.1 = 12
          · rw [if_pos (show kd T S3.1 = 12 from h129)] at hres
            refine V.callV1 X (k_acc_t (S := S3) h t o3 (by decide) h129) Y_Tk_accept k_Cp_84 3 rfl rfl rfl rfl rfl (Rok.lt (by omega)) d_Cp_arguments_129 ?_
            have o4 := ok_adv (S := S3) t o3 h129 (by decide)
            refine V.istore_n (lv' := [(0, _), (1, _), (2, _), (3, _), (4, _), (5, _), (6, _)]) X d_Cp_arguments_132 (by decide) rfl ?_
            refine V.goto (tgt := 19) X d_Cp_arguments_133 (by decide) ?_
            refine V.pick [0, 1, 2, 3] (lv' := [(0, .ref (a 2)), (1, .int (nI q)), (2, .int (nI (r + 1))), (3, .int (nI 1))]) rfl ?_
            exact ih _ _ (by omega) o4 hres
          · rw [if_neg (show ¬ kd T S3.1 = 12 from h129)] at hres
            refine V.callV1 X (k_acc_f (S := S3) h t o3 (by decide) h129) Y_Tk_accept k_Cp_84 3 rfl rfl rfl rfl rfl (Rok.lt (by omega)) d_Cp_arguments_129 ?_
            refine V.istore_n (lv' := [(0, _), (1, _), (2, _), (3, _), (4, _), (5, _), (6, _)]) X d_Cp_arguments_132 (by decide) rfl ?_
            refine V.goto (tgt := 19) X d_Cp_arguments_133 (by decide) ?_
            refine V.iload_n X d_Cp_arguments_19 rfl ?_
            refine V.ifN_eq (tgt := 136) X d_Cp_arguments_20 (by decide) (by decide) (fun _ => ?_) (fun h => absurd rfl h)
            refine V.aload_n X d_Cp_arguments_136 rfl ?_
            refine V.getK X 14 (by decide) k_Cp_160 d_Cp_arguments_137 ?_
            refine V.bd (val := vV) X hres (c_Cp_expect (S := S3) h hlt t o3 (q := 14) (by decide) rfl) Y_Cp_expect k_Cp_59 rfl rfl rfl rfl (Rok.lt (by omega)) d_Cp_arguments_140 ?_
            intro v5 S5 x5 hres
            have r5 := rs_expect (q := 14) t (by decide) S3
            rw [x5] at r5
            have o5 : Ok m S5 := r5.1 o3
            try dsimp only at hres
            refine V.iload_n X d_Cp_arguments_143 rfl ?_
            subst hres
            exact V.iret X d_Cp_arguments_144 rfl rfl
        · first | rw [if_pos h82] at hres | rw [if_neg h82] at hres | skip
          refine V.iload X d_Cp_arguments_85 rfl ?_
          refine V.ifN_eq (tgt := 104) X d_Cp_arguments_87 (by decide) (by decide) (fun _ => ?_) (fun h => absurd rfl h)
          rw [if_neg (fun w => h40 w.1)] at hres
          refine V.aload_n X d_Cp_arguments_104 rfl ?_
          refine V.iload X d_Cp_arguments_105 rfl ?_
          subst hres
          exact V.callVX X (c_Cp_refuse (S := S3) h hlt) Y_Cp_refuse k_Cp_74 2 rfl rfl rfl rfl rfl (Rok.lt (by omega)) d_Cp_arguments_107 rfl rfl
      · replace h40 := ek_inj X.kk (t.some o.1).2 (by decide) h40
        refine V.iconst (v := nI 1) X d_Cp_arguments_43 (by decide +kernel) ?_
        refine V.goto (tgt := 48) X d_Cp_arguments_44 (by decide) ?_
        refine V.istore (lv' := [(0, _), (1, _), (2, _), (3, _), (4, _)]) X d_Cp_arguments_48 (by decide) rfl ?_
        refine V.aload_n X d_Cp_arguments_50 rfl ?_
        refine g_Cp_tokens X k_Cp_12 d_Cp_arguments_51 ?_
        refine V.callV1 X (k_place (S := S) h t o) Y_Tk_place k_Cp_70 3 rfl rfl rfl rfl rfl (Rok.lt (by omega)) d_Cp_arguments_54 ?_
        refine V.istore (lv' := [(0, _), (1, _), (2, _), (3, _), (4, _), (5, _)]) X d_Cp_arguments_57 (by decide) rfl ?_
        refine V.aload_n X d_Cp_arguments_59 rfl ?_
        refine g_Cp_code X k_Cp_28 d_Cp_arguments_60 ?_
        refine g_Co_size X k_Cp_43 d_Cp_arguments_63 ?_
        refine V.istore (lv' := [(0, _), (1, _), (2, _), (3, _), (4, _), (5, _), (6, _)]) X d_Cp_arguments_66 (by decide) rfl ?_
        refine V.aload_n X d_Cp_arguments_68 rfl ?_
        refine V.iconst (v := nI 0) X d_Cp_arguments_69 (by decide +kernel) ?_
        refine V.bd (val := vV) X hres (c_Cp_expr h hlt t 8 0 S _ rfl o rfl) Y_Cp_expression k_Cp_212 rfl rfl rfl rfl (Rok.lt (by omega)) d_Cp_arguments_70 ?_
        intro v6 S6 x6 hres
        have r6 := rs_expr t 8 S
        rw [x6] at r6
        have o6 : Ok m S6 := r6.1 o
        try dsimp only at hres
        have hs1 := o.2.2.1
        have hs2 := o6.2.2.1
        refine V.aload_n X d_Cp_arguments_73 rfl ?_
        refine g_Cp_code X k_Cp_28 d_Cp_arguments_74 ?_
        refine V.iload_n X d_Cp_arguments_77 rfl ?_
        refine V.iload_n X d_Cp_arguments_78 rfl ?_
        refine V.callV1 X (k_isRef (S := S6) h o6 hq (by omega)) Y_Co_isReference k_Cp_227 19 rfl rfl rfl rfl rfl (Rok.lt (by omega)) d_Cp_arguments_79 ?_
        refine V.ifB_eq (tgt := 119) X d_Cp_arguments_82 (by decide) (fun h82 => ?_) (fun h82 => ?_)
        · rw [if_neg (by rw [h82]; decide)] at hres
          refine V.iinc (lv' := [(0, _), (1, _), (2, _), (3, _), (4, _), (5, _), (6, _)]) X d_Cp_arguments_119 rfl (show _ + nI 1 = _ from nI_add _ 1) (by decide) rfl ?_
          refine V.aload_n X d_Cp_arguments_122 rfl ?_
          refine g_Cp_tokens X k_Cp_12 d_Cp_arguments_123 ?_
          refine V.getK X 12 (by decide) k_Cp_127 d_Cp_arguments_126 ?_
          by_cases h129 : kd T S6.1 = 12
          · rw [if_pos (show kd T S6.1 = 12 from h129)] at hres
            refine V.callV1 X (k_acc_t (S := S6) h t o6 (by decide) h129) Y_Tk_accept k_Cp_84 3 rfl rfl rfl rfl rfl (Rok.lt (by omega)) d_Cp_arguments_129 ?_
            have o7 := ok_adv (S := S6) t o6 h129 (by decide)
            refine V.istore_n (lv' := [(0, _), (1, _), (2, _), (3, _), (4, _), (5, _), (6, _)]) X d_Cp_arguments_132 (by decide) rfl ?_
            refine V.goto (tgt := 19) X d_Cp_arguments_133 (by decide) ?_
            refine V.pick [0, 1, 2, 3] (lv' := [(0, .ref (a 2)), (1, .int (nI q)), (2, .int (nI (r + 1))), (3, .int (nI 1))]) rfl ?_
            exact ih _ _ (by omega) o7 hres
          · rw [if_neg (show ¬ kd T S6.1 = 12 from h129)] at hres
            refine V.callV1 X (k_acc_f (S := S6) h t o6 (by decide) h129) Y_Tk_accept k_Cp_84 3 rfl rfl rfl rfl rfl (Rok.lt (by omega)) d_Cp_arguments_129 ?_
            refine V.istore_n (lv' := [(0, _), (1, _), (2, _), (3, _), (4, _), (5, _), (6, _)]) X d_Cp_arguments_132 (by decide) rfl ?_
            refine V.goto (tgt := 19) X d_Cp_arguments_133 (by decide) ?_
            refine V.iload_n X d_Cp_arguments_19 rfl ?_
            refine V.ifN_eq (tgt := 136) X d_Cp_arguments_20 (by decide) (by decide) (fun _ => ?_) (fun h => absurd rfl h)
            refine V.aload_n X d_Cp_arguments_136 rfl ?_
            refine V.getK X 14 (by decide) k_Cp_160 d_Cp_arguments_137 ?_
            refine V.bd (val := vV) X hres (c_Cp_expect (S := S6) h hlt t o6 (q := 14) (by decide) rfl) Y_Cp_expect k_Cp_59 rfl rfl rfl rfl (Rok.lt (by omega)) d_Cp_arguments_140 ?_
            intro v8 S8 x8 hres
            have r8 := rs_expect (q := 14) t (by decide) S6
            rw [x8] at r8
            have o8 : Ok m S8 := r8.1 o6
            try dsimp only at hres
            refine V.iload_n X d_Cp_arguments_143 rfl ?_
            subst hres
            exact V.iret X d_Cp_arguments_144 rfl rfl
        · first | rw [if_pos h82] at hres | rw [if_neg h82] at hres | skip
          refine V.iload X d_Cp_arguments_85 rfl ?_
          refine V.ifN_eq (tgt := 104) X d_Cp_arguments_87 (by decide) (by decide) (fun h => absurd h (by decide)) (fun _ => ?_)
          refine V.aload_n X d_Cp_arguments_90 rfl ?_
          refine g_Cp_code X k_Cp_28 d_Cp_arguments_91 ?_
          refine g_Co_size X k_Cp_43 d_Cp_arguments_94 ?_
          refine V.iload X d_Cp_arguments_97 rfl ?_
          refine V.iconst (v := nI 1) X d_Cp_arguments_99 (by decide +kernel) ?_
          refine V.iadd X d_Cp_arguments_100 (nI_add _ _) ?_
          refine V.cmpN_eq (tgt := 110) X d_Cp_arguments_101 (by decide) (by first | omega | (dsimp only; omega) | (simp only [] at *; omega)) (by first | omega | (dsimp only; omega) | (simp only [] at *; omega)) (fun h101 => ?_) (fun h101 => ?_)
          · rw [if_pos ⟨h40, h101⟩] at hres
            refine V.aload_n X d_Cp_arguments_110 rfl ?_
            refine g_Cp_code X k_Cp_28 d_Cp_arguments_111 ?_
            refine V.iload X d_Cp_arguments_114 rfl ?_
            refine V.callV0 X (k_addr (S := S6) h o6 (by omega)) Y_Co_takeAddress k_Cp_230 19 rfl rfl rfl rfl rfl (Rok.lt (by omega)) d_Cp_arguments_116 ?_
            have o9 : Ok m (cadr S6 S.2.2.2.2.2.2.2.2.1) := ok_adr o6
            refine V.iinc (lv' := [(0, _), (1, _), (2, _), (3, _), (4, _), (5, _), (6, _)]) X d_Cp_arguments_119 rfl (show _ + nI 1 = _ from nI_add _ 1) (by decide) rfl ?_
            refine V.aload_n X d_Cp_arguments_122 rfl ?_
            refine g_Cp_tokens X k_Cp_12 d_Cp_arguments_123 ?_
            refine V.getK X 12 (by decide) k_Cp_127 d_Cp_arguments_126 ?_
            by_cases h129 : kd T (cadr S6 S.2.2.2.2.2.2.2.2.1).1 = 12
            · rw [if_pos (show kd T S6.1 = 12 from h129)] at hres
              refine V.callV1 X (k_acc_t (S := (cadr S6 S.2.2.2.2.2.2.2.2.1)) h t o9 (by decide) h129) Y_Tk_accept k_Cp_84 3 rfl rfl rfl rfl rfl (Rok.lt (by omega)) d_Cp_arguments_129 ?_
              have o10 := ok_adv (S := (cadr S6 S.2.2.2.2.2.2.2.2.1)) t o9 h129 (by decide)
              refine V.istore_n (lv' := [(0, _), (1, _), (2, _), (3, _), (4, _), (5, _), (6, _)]) X d_Cp_arguments_132 (by decide) rfl ?_
              refine V.goto (tgt := 19) X d_Cp_arguments_133 (by decide) ?_
              refine V.pick [0, 1, 2, 3] (lv' := [(0, .ref (a 2)), (1, .int (nI q)), (2, .int (nI (r + 1))), (3, .int (nI 1))]) rfl ?_
              exact ih _ _ (by omega) o10 hres
            · rw [if_neg (show ¬ kd T S6.1 = 12 from h129)] at hres
              refine V.callV1 X (k_acc_f (S := (cadr S6 S.2.2.2.2.2.2.2.2.1)) h t o9 (by decide) h129) Y_Tk_accept k_Cp_84 3 rfl rfl rfl rfl rfl (Rok.lt (by omega)) d_Cp_arguments_129 ?_
              refine V.istore_n (lv' := [(0, _), (1, _), (2, _), (3, _), (4, _), (5, _), (6, _)]) X d_Cp_arguments_132 (by decide) rfl ?_
              refine V.goto (tgt := 19) X d_Cp_arguments_133 (by decide) ?_
              refine V.iload_n X d_Cp_arguments_19 rfl ?_
              refine V.ifN_eq (tgt := 136) X d_Cp_arguments_20 (by decide) (by decide) (fun _ => ?_) (fun h => absurd rfl h)
              refine V.aload_n X d_Cp_arguments_136 rfl ?_
              refine V.getK X 14 (by decide) k_Cp_160 d_Cp_arguments_137 ?_
              refine V.bd (val := vV) X hres (c_Cp_expect (S := (cadr S6 S.2.2.2.2.2.2.2.2.1)) h hlt t o9 (q := 14) (by decide) rfl) Y_Cp_expect k_Cp_59 rfl rfl rfl rfl (Rok.lt (by omega)) d_Cp_arguments_140 ?_
              intro v11 S11 x11 hres
              have r11 := rs_expect (q := 14) t (by decide) (cadr S6 S.2.2.2.2.2.2.2.2.1)
              rw [x11] at r11
              have o11 : Ok m S11 := r11.1 o9
              try dsimp only at hres
              refine V.iload_n X d_Cp_arguments_143 rfl ?_
              subst hres
              exact V.iret X d_Cp_arguments_144 rfl rfl
          · rw [if_neg (fun w => h101 w.2)] at hres
            refine V.aload_n X d_Cp_arguments_104 rfl ?_
            refine V.iload X d_Cp_arguments_105 rfl ?_
            subst hres
            exact V.callVX X (c_Cp_refuse (S := S6) h hlt) Y_Cp_refuse k_Cp_74 2 rfl rfl rfl rfl rfl (Rok.lt (by omega)) d_Cp_arguments_107 rfl rfl
  · first | rw [if_pos h7] at hres | rw [if_neg h7] at hres | skip
    refine V.callV1 X (k_acc_f (S := S) h t o (by decide) h7) Y_Tk_accept k_Cp_84 3 rfl rfl rfl rfl rfl (Rok.lt (by omega)) d_Cp_arguments_7 ?_
    refine V.ifN_ne (tgt := 15) X d_Cp_arguments_10 (by decide) (by decide) (fun h => absurd rfl h) (fun _ => ?_)
    refine V.iconst (v := nI 0) X d_Cp_arguments_13 (by decide +kernel) ?_
    subst hres
    exact V.iret X d_Cp_arguments_14 rfl rfl
set_option maxHeartbeats 4000000 in
set_option maxRecDepth 100000 in
theorem c_Cp_call {l : Launch} {z : Zt} {a u w : Nat → Nat} {P : Pm} {F : Int32} {T : Tk} {m : Nat} {D : Co} {M : Mc} {S : CS} {Rr : CR} (h : Nat) (hlt : l.stackTraces = false) (t : TkOk T m) (o : Ok m S) (h25 : kd T S.1 = 25) (hres : cp_call T S = Rr) : XC l (Gz z) (h + 31) y_Cp_procedureCall b_Cp_procedureCall 4 none [.ref (a 2)] (Wc z a u w P F T D M S) (oc vV Rr.1) (Wr z a u w P F T D M Rr) := by
  rw [cp_call] at hres
  refine XC.ofV (by decide +kernel) rfl ?_
  intro p e s m9 below meth c X hnm
  refine V.lvs (lv' := [(0, .ref (a 2))]) rfl ?_
  refine V.aload_n X d_Cp_procedureCall_0 rfl ?_
  refine g_Cp_tokens X k_Cp_12 d_Cp_procedureCall_1 ?_
  refine V.callV1 X (k_place (S := S) h t o) Y_Tk_place k_Cp_70 3 rfl rfl rfl rfl rfl (Rok.lt (by omega)) d_Cp_procedureCall_4 ?_
  refine V.istore_n (lv' := [(0, _), (1, _)]) X d_Cp_procedureCall_7 (by decide) rfl ?_
  refine V.aload_n X d_Cp_procedureCall_8 rfl ?_
  refine g_Cp_names X k_Cp_21 d_Cp_procedureCall_9 ?_
  refine V.aload_n X d_Cp_procedureCall_12 rfl ?_
  refine g_Cp_tokens X k_Cp_12 d_Cp_procedureCall_13 ?_
  refine V.callV1 X (k_content (S := S) h t o) Y_Tk_content k_Cp_91 3 rfl rfl rfl rfl rfl (Rok.lt (by omega)) d_Cp_procedureCall_16 ?_
  rcases f19 : nm_find S.2.1 (T.2.2.1 S.1) with _ | i19
  · rw [f19] at hres
    dsimp only at hres
    refine V.callV1 X (k_find_none (S := S) h o f19) Y_Nm_find k_Cp_204 7 rfl rfl rfl rfl rfl (Rok.lt (by omega)) d_Cp_procedureCall_19 ?_
    refine V.istore_n (lv' := [(0, _), (1, _), (2, _)]) X d_Cp_procedureCall_22 (by decide) rfl ?_
    refine V.iload_n X d_Cp_procedureCall_23 rfl ?_
    refine V.if_lt (tgt := 38) X d_Cp_procedureCall_24 (by decide) (fun _ => ?_) (fun h => absurd (by decide) h)
    refine V.aload_n X d_Cp_procedureCall_38 rfl ?_
    refine V.iload_n X d_Cp_procedureCall_39 rfl ?_
    subst hres
    exact V.callVX X (c_Cp_refuse (S := S) h hlt) Y_Cp_refuse k_Cp_74 2 rfl rfl rfl rfl rfl (Rok.lt (by omega)) d_Cp_procedureCall_40 rfl rfl
  · rw [f19] at hres
    dsimp only at hres
    obtain ⟨b19, c19⟩ := fnd18 o f19
    refine V.callV1 X (k_find_some (S := S) h o f19) Y_Nm_find k_Cp_204 7 rfl rfl rfl rfl rfl (Rok.lt (by omega)) d_Cp_procedureCall_19 ?_
    refine V.istore_n (lv' := [(0, _), (1, _), (2, _)]) X d_Cp_procedureCall_22 (by decide) rfl ?_
    refine V.iload_n X d_Cp_procedureCall_23 rfl ?_
    refine V.ifN_lt (tgt := 38) X d_Cp_procedureCall_24 (by decide) (by first | omega | (dsimp only; omega) | (simp only [] at *; omega)) ?_
    refine V.aload_n X d_Cp_procedureCall_27 rfl ?_
    refine g_Cp_names X k_Cp_21 d_Cp_procedureCall_28 ?_
    refine V.iload_n X d_Cp_procedureCall_31 rfl ?_
    refine V.callV1 X (k_isProcedure (S := S) h o b19) Y_Nm_isProcedure k_Cp_208 7 rfl rfl rfl rfl rfl (Rok.lt (by omega)) d_Cp_procedureCall_32 ?_
    refine V.ifB_ne (tgt := 43) X d_Cp_procedureCall_35 (by decide) (fun h35 => ?_) (fun h35 => ?_)
    · replace h35 := of_decide_eq_true h35
      first | rw [if_pos h35] at hres | rw [if_neg h35] at hres | skip
      refine V.aload_n X d_Cp_procedureCall_43 rfl ?_
      refine g_Cp_code X k_Cp_28 d_Cp_procedureCall_44 ?_
      refine V.iconst (v := nI 0) X d_Cp_procedureCall_47 (by decide +kernel) ?_
      refine V.iconst (v := nI 0) X d_Cp_procedureCall_48 (by decide +kernel) ?_
      refine V.iconst (v := nI 0) X d_Cp_procedureCall_49 (by decide +kernel) ?_
      refine V.callV1 X (k_add (S := S) h o) Y_Co_add k_Cp_120 19 rfl rfl rfl rfl rfl (Rok.lt (by omega)) d_Cp_procedureCall_50 ?_
      have o1 : Ok m (cadd S 0 0 0) := ok_add o (by decide)
      refine V.pop X d_Cp_procedureCall_53 rfl ?_
      refine V.aload_n X d_Cp_procedureCall_54 rfl ?_
      refine g_Cp_tokens X k_Cp_12 d_Cp_procedureCall_55 ?_
      refine V.callV0 X (k_advance (S := (cadd S 0 0 0)) h t o1) Y_Tk_advance k_Cp_99 3 rfl rfl rfl rfl rfl (Rok.lt (by omega)) d_Cp_procedureCall_58 ?_
      have o2 := ok_adv (S := (cadd S 0 0 0)) t o1 h25 (by decide)
      refine V.aload_n X d_Cp_procedureCall_61 rfl ?_
      refine g_Cp_names X k_Cp_21 d_Cp_procedureCall_62 ?_
      refine V.iload_n X d_Cp_procedureCall_65 rfl ?_
      refine V.callV1 X (k_number (m := m) (S := (adv (cadd S 0 0 0))) h b19) Y_Nm_number k_Cp_221 7 rfl rfl rfl rfl rfl (Rok.lt (by omega)) d_Cp_procedureCall_66 ?_
      refine V.eqs (sk' := [.int (nI (S.2.1.2.2.2.1 i19))]) rfl ?_
      refine V.istore_n (lv' := [(0, _), (1, _), (2, _), (3, _)]) X d_Cp_procedureCall_69 (by decide) rfl ?_
      refine V.aload_n X d_Cp_procedureCall_70 rfl ?_
      refine V.iload_n X d_Cp_procedureCall_71 rfl ?_
      have hq6 : S.2.1.2.2.2.1 i19 < 6 := o.2.1.2.2.2.2.2.2.1 i19 h35
      refine V.bd (val := vI) X hres (c_Cp_args (S := (adv (cadd S 0 0 0))) h hlt t o2 hq6 rfl) Y_Cp_arguments k_Cp_224 rfl rfl rfl rfl (Rok.lt (by omega)) d_Cp_procedureCall_72 ?_
      intro v3 S3 x3 hres
      have r3 := rs_args (q := S.2.1.2.2.2.1 i19) t (adv (cadd S 0 0 0))
      rw [x3] at r3
      have o3 : Ok m S3 := r3.1 o2
      have c3 : S3.2.1.2.2.1 i19 ≤ S3.2.1.2.2.2.2.2.2.1 := by rw [show S3.2.1 = (adv (cadd S 0 0 0)).2.1 from r3.2]; exact c19
      try dsimp only at hres
      have hv9 := args_le x3
      have hp9 := o3.2.2.2.2.2 (S.2.1.2.2.2.1 i19)
      refine V.aload_n X d_Cp_procedureCall_75 rfl ?_
      refine g_Cp_code X k_Cp_28 d_Cp_procedureCall_76 ?_
      refine g_Co_parameters X k_Cp_136 d_Cp_procedureCall_79 ?_
      refine V.iload_n X d_Cp_procedureCall_82 rfl ?_
      refine l_Co_parameters X (by first | omega | (dsimp only; omega) | (simp only [] at *; omega)) d_Cp_procedureCall_83 ?_
      refine V.cmpN_eq (tgt := 92) X d_Cp_procedureCall_84 (by decide) (by first | omega | (dsimp only; omega) | (simp only [] at *; omega)) (by first | omega | (dsimp only; omega) | (simp only [] at *; omega)) (fun h84 => ?_) (fun h84 => ?_)
      · rw [if_pos h84] at hres
        refine V.aload_n X d_Cp_procedureCall_92 rfl ?_
        refine g_Cp_code X k_Cp_28 d_Cp_procedureCall_93 ?_
        refine V.bipush (v := nI 18) X d_Cp_procedureCall_96 (by decide +kernel) ?_
        refine V.aload_n X d_Cp_procedureCall_98 rfl ?_
        refine g_Cp_names X k_Cp_21 d_Cp_procedureCall_99 ?_
        refine V.iload_n X d_Cp_procedureCall_102 rfl ?_
        refine V.callV1 X (k_hops (S := S3) h o3 b19 c3) Y_Nm_hops k_Cp_218 7 rfl rfl rfl rfl rfl (Rok.lt (by omega)) d_Cp_procedureCall_103 ?_
        refine V.iload_n X d_Cp_procedureCall_106 rfl ?_
        refine V.callV1 X (k_add (S := S3) h o3) Y_Co_add k_Cp_120 19 rfl rfl rfl rfl rfl (Rok.lt (by omega)) d_Cp_procedureCall_107 ?_
        have o4 : Ok m (cadd S3 18 (S3.2.1.2.2.2.2.2.2.1 - S3.2.1.2.2.1 i19) (S.2.1.2.2.2.1 i19)) := ok_add o3 (by decide)
        refine V.pop X d_Cp_procedureCall_110 rfl ?_
        subst hres
        exact V.vret X d_Cp_procedureCall_111 rfl rfl
      · rw [if_neg h84] at hres
        refine V.aload_n X d_Cp_procedureCall_87 rfl ?_
        refine V.iload_n X d_Cp_procedureCall_88 rfl ?_
        subst hres
        exact V.callVX X (c_Cp_refuse (S := S3) h hlt) Y_Cp_refuse k_Cp_74 2 rfl rfl rfl rfl rfl (Rok.lt (by omega)) d_Cp_procedureCall_89 rfl rfl
    · replace h35 := of_decide_eq_false h35
      first | rw [if_pos h35] at hres | rw [if_neg h35] at hres | skip
      refine V.aload_n X d_Cp_procedureCall_38 rfl ?_
      refine V.iload_n X d_Cp_procedureCall_39 rfl ?_
      subst hres
      exact V.callVX X (c_Cp_refuse (S := S) h hlt) Y_Cp_refuse k_Cp_74 2 rfl rfl rfl rfl rfl (Rok.lt (by omega)) d_Cp_procedureCall_40 rfl rfl
set_option maxHeartbeats 4000000 in
set_option maxRecDepth 100000 in
theorem c_Cp_if {l : Launch} {z : Zt} {a u w : Nat → Nat} {P : Pm} {F : Int32} {T : Tk} {m : Nat} {D : Co} {M : Mc} {S : CS} {Rr : CR} (h : Nat) (hlt : l.stackTraces = false) (t : TkOk T m) (o : Ok m S) {f : CS → CR} {d k : Nat} (hk : 31 ≤ k) (hf : ∀ S, RS m S (f S).2) (hF : ∀ (S : CS) (Rr : CR), Ok m S → f S = Rr → XC l (Gz z) (h + k) y_Cp_statement b_Cp_statement 2 none [.ref (a 2), .int (nI d)] (Wc z a u w P F T D M S) (oc vV Rr.1) (Wr z a u w P F T D M Rr)) (hres : cp_if T f S = Rr) : XC l (Gz z) (h + k + 1) y_Cp_ifStatement b_Cp_ifStatement 4 none [.ref (a 2), .int (nI d)] (Wc z a u w P F T D M S) (oc vV Rr.1) (Wr z a u w P F T D M Rr) := by
  rw [cp_if] at hres
  refine XC.ofV (by decide +kernel) rfl ?_
  intro p e s m9 below meth c X hnm
  refine V.lvs (lv' := [(0, .ref (a 2)), (1, .int (nI d))]) rfl ?_
  refine V.aload_n X d_Cp_ifStatement_0 rfl ?_
  refine g_Cp_code X k_Cp_28 d_Cp_ifStatement_1 ?_
  refine V.iconst (v := nI 0) X d_Cp_ifStatement_4 (by decide +kernel) ?_
  refine V.iconst (v := nI 0) X d_Cp_ifStatement_5 (by decide +kernel) ?_
  refine V.iconst (v := nI 0) X d_Cp_ifStatement_6 (by decide +kernel) ?_
  refine V.callV1 X (k_add (S := S) h o) Y_Co_add k_Cp_120 19 rfl rfl rfl rfl rfl (Rok.lt (by omega)) d_Cp_ifStatement_7 ?_
  have o1 : Ok m (cadd S 0 0 0) := ok_add o (by decide)
  refine V.pop X d_Cp_ifStatement_10 rfl ?_
  refine V.aload_n X d_Cp_ifStatement_11 rfl ?_
  refine V.bd (val := vI) X hres (c_Cp_cond (S := (cadd S 0 0 0)) h hlt t o1 rfl) Y_Cp_condition k_Cp_233 rfl rfl rfl rfl (Rok.lt (by omega)) d_Cp_ifStatement_12 ?_
  intro v2 S2 x2 hres
  have r2 := rs_cond t (cadd S 0 0 0)
  rw [x2] at r2
  have o2 : Ok m S2 := r2.1 o1
  try dsimp only at hres
  have hv9 := cond_le t o1 x2
  refine V.istore_n (lv' := [(0, _), (1, _), (2, _)]) X d_Cp_ifStatement_15 (by decide) rfl ?_
  refine V.aload_n X d_Cp_ifStatement_16 rfl ?_
  refine V.getK X 5 (by decide) k_Cp_236 d_Cp_ifStatement_17 ?_
  refine V.bd (val := vV) X hres (c_Cp_expect (S := S2) h hlt t o2 (q := 5) (by decide) rfl) Y_Cp_expect k_Cp_59 rfl rfl rfl rfl (Rok.lt (by omega)) d_Cp_ifStatement_20 ?_
  intro v3 S3 x3 hres
  have r3 := rs_expect (q := 5) t (by decide) S2
  rw [x3] at r3
  have o3 : Ok m S3 := r3.1 o2
  try dsimp only at hres
  refine V.aload_n X d_Cp_ifStatement_23 rfl ?_
  refine V.iload_n X d_Cp_ifStatement_24 rfl ?_
  refine V.bd (val := vV) X hres (hF S3 _ o3 rfl) Y_Cp_statement k_Cp_166 rfl rfl rfl rfl (Rok.lt (by omega)) d_Cp_ifStatement_25 ?_
  intro v4 S4 x4 hres
  have r4 := hf S3
  rw [x4] at r4
  have o4 : Ok m S4 := r4.1 o3
  try dsimp only at hres
  refine V.aload_n X d_Cp_ifStatement_28 rfl ?_
  refine g_Cp_tokens X k_Cp_12 d_Cp_ifStatement_29 ?_
  refine V.getK X 6 (by decide) k_Cp_239 d_Cp_ifStatement_32 ?_
  by_cases h35 : kd T S4.1 = 6
  · first | rw [if_pos h35] at hres | rw [if_neg h35] at hres | skip
    refine V.callV1 X (k_acc_t (S := S4) h t o4 (by decide) h35) Y_Tk_accept k_Cp_84 3 rfl rfl rfl rfl rfl (Rok.lt (by omega)) d_Cp_ifStatement_35 ?_
    have o5 := ok_adv (S := S4) t o4 h35 (by decide)
    refine V.ifN_eq (tgt := 77) X d_Cp_ifStatement_38 (by decide) (by decide) (fun h => absurd h (by decide)) (fun _ => ?_)
    refine V.aload_n X d_Cp_ifStatement_41 rfl ?_
    refine g_Cp_code X k_Cp_28 d_Cp_ifStatement_42 ?_
    refine V.bipush (v := nI 16) X d_Cp_ifStatement_45 (by decide +kernel) ?_
    refine V.iconst (v := nI 0) X d_Cp_ifStatement_47 (by decide +kernel) ?_
    refine V.iconst (v := nI 0) X d_Cp_ifStatement_48 (by decide +kernel) ?_
    have hs9 := o5.2.2.1
    refine V.callV1 X (k_add (S := (adv S4)) h o5) Y_Co_add k_Cp_120 19 rfl rfl rfl rfl rfl (Rok.lt (by omega)) d_Cp_ifStatement_49 ?_
    have o6 : Ok m (cadd (adv S4) 16 0 0) := ok_add o5 (by decide)
    refine V.istore_n (lv' := [(0, _), (1, _), (2, _), (3, _)]) X d_Cp_ifStatement_52 (by decide) rfl ?_
    refine V.aload_n X d_Cp_ifStatement_53 rfl ?_
    refine g_Cp_code X k_Cp_28 d_Cp_ifStatement_54 ?_
    refine V.iload_n X d_Cp_ifStatement_57 rfl ?_
    refine V.callV0 X (k_jump (S := (cadd (adv S4) 16 0 0)) h o6 (by omega)) Y_Co_jumpToEnd k_Cp_242 19 rfl rfl rfl rfl rfl (Rok.lt (by omega)) d_Cp_ifStatement_58 ?_
    have o7 : Ok m (cjmp (cadd (adv S4) 16 0 0) v2) := ok_jmp o6
    refine V.aload_n X d_Cp_ifStatement_61 rfl ?_
    refine V.iload_n X d_Cp_ifStatement_62 rfl ?_
    refine V.bd (val := vV) X hres (hF (cjmp (cadd (adv S4) 16 0 0) v2) _ o7 rfl) Y_Cp_statement k_Cp_166 rfl rfl rfl rfl (Rok.lt (by omega)) d_Cp_ifStatement_63 ?_
    intro v8 S8 x8 hres
    have r8 := hf (cjmp (cadd (adv S4) 16 0 0) v2)
    rw [x8] at r8
    have o8 : Ok m S8 := r8.1 o7
    try dsimp only at hres
    refine V.aload_n X d_Cp_ifStatement_66 rfl ?_
    refine g_Cp_code X k_Cp_28 d_Cp_ifStatement_67 ?_
    refine V.iload_n X d_Cp_ifStatement_70 rfl ?_
    refine V.callV0 X (k_jump (S := S8) h o8 (Nat.lt_of_le_of_lt hs9 (by decide))) Y_Co_jumpToEnd k_Cp_242 19 rfl rfl rfl rfl rfl (Rok.lt (by omega)) d_Cp_ifStatement_71 ?_
    have o9 : Ok m (cjmp S8 (adv S4).2.2.2.2.2.2.2.2.1) := ok_jmp o8
    refine V.goto (tgt := 85) X d_Cp_ifStatement_74 (by decide) ?_
    subst hres
    exact V.vret X d_Cp_ifStatement_85 rfl rfl
  · first | rw [if_pos h35] at hres | rw [if_neg h35] at hres | skip
    refine V.callV1 X (k_acc_f (S := S4) h t o4 (by decide) h35) Y_Tk_accept k_Cp_84 3 rfl rfl rfl rfl rfl (Rok.lt (by omega)) d_Cp_ifStatement_35 ?_
    refine V.ifN_eq (tgt := 77) X d_Cp_ifStatement_38 (by decide) (by decide) (fun _ => ?_) (fun h => absurd rfl h)
    refine V.aload_n X d_Cp_ifStatement_77 rfl ?_
    refine g_Cp_code X k_Cp_28 d_Cp_ifStatement_78 ?_
    refine V.iload_n X d_Cp_ifStatement_81 rfl ?_
    refine V.callV0 X (k_jump (S := S4) h o4 (by omega)) Y_Co_jumpToEnd k_Cp_242 19 rfl rfl rfl rfl rfl (Rok.lt (by omega)) d_Cp_ifStatement_82 ?_
    have o10 : Ok m (cjmp S4 v2) := ok_jmp o4
    subst hres
    exact V.vret X d_Cp_ifStatement_85 rfl rfl
set_option maxHeartbeats 4000000 in
set_option maxRecDepth 100000 in
theorem c_Cp_while {l : Launch} {z : Zt} {a u w : Nat → Nat} {P : Pm} {F : Int32} {T : Tk} {m : Nat} {D : Co} {M : Mc} {S : CS} {Rr : CR} (h : Nat) (hlt : l.stackTraces = false) (t : TkOk T m) (o : Ok m S) {f : CS → CR} {d k : Nat} (hk : 31 ≤ k) (hf : ∀ S, RS m S (f S).2) (hF : ∀ (S : CS) (Rr : CR), Ok m S → f S = Rr → XC l (Gz z) (h + k) y_Cp_statement b_Cp_statement 2 none [.ref (a 2), .int (nI d)] (Wc z a u w P F T D M S) (oc vV Rr.1) (Wr z a u w P F T D M Rr)) (hres : cp_while T f S = Rr) : XC l (Gz z) (h + k + 1) y_Cp_whileStatement b_Cp_whileStatement 4 none [.ref (a 2), .int (nI d)] (Wc z a u w P F T D M S) (oc vV Rr.1) (Wr z a u w P F T D M Rr) := by
  rw [cp_while] at hres
  refine XC.ofV (by decide +kernel) rfl ?_
  intro p e s m9 below meth c X hnm
  refine V.lvs (lv' := [(0, .ref (a 2)), (1, .int (nI d))]) rfl ?_
  refine V.aload_n X d_Cp_whileStatement_0 rfl ?_
  refine g_Cp_code X k_Cp_28 d_Cp_whileStatement_1 ?_
  refine V.iconst (v := nI 0) X d_Cp_whileStatement_4 (by decide +kernel) ?_
  refine V.iconst (v := nI 0) X d_Cp_whileStatement_5 (by decide +kernel) ?_
  refine V.iconst (v := nI 0) X d_Cp_whileStatement_6 (by decide +kernel) ?_
  refine V.callV1 X (k_add (S := S) h o) Y_Co_add k_Cp_120 19 rfl rfl rfl rfl rfl (Rok.lt (by omega)) d_Cp_whileStatement_7 ?_
  have o1 : Ok m (cadd S 0 0 0) := ok_add o (by decide)
  refine V.istore_n (lv' := [(0, _), (1, _), (2, _)]) X d_Cp_whileStatement_10 (by decide) rfl ?_
  refine V.aload_n X d_Cp_whileStatement_11 rfl ?_
  refine V.bd (val := vI) X hres (c_Cp_cond (S := (cadd S 0 0 0)) h hlt t o1 rfl) Y_Cp_condition k_Cp_233 rfl rfl rfl rfl (Rok.lt (by omega)) d_Cp_whileStatement_12 ?_
  intro v2 S2 x2 hres
  have r2 := rs_cond t (cadd S 0 0 0)
  rw [x2] at r2
  have o2 : Ok m S2 := r2.1 o1
  try dsimp only at hres
  have hv9 := cond_le t o1 x2
  refine V.istore_n (lv' := [(0, _), (1, _), (2, _), (3, _)]) X d_Cp_whileStatement_15 (by decide) rfl ?_
  refine V.aload_n X d_Cp_whileStatement_16 rfl ?_
  refine V.getK X 8 (by decide) k_Cp_245 d_Cp_whileStatement_17 ?_
  refine V.bd (val := vV) X hres (c_Cp_expect (S := S2) h hlt t o2 (q := 8) (by decide) rfl) Y_Cp_expect k_Cp_59 rfl rfl rfl rfl (Rok.lt (by omega)) d_Cp_whileStatement_20 ?_
  intro v3 S3 x3 hres
  have r3 := rs_expect (q := 8) t (by decide) S2
  rw [x3] at r3
  have o3 : Ok m S3 := r3.1 o2
  try dsimp only at hres
  refine V.aload_n X d_Cp_whileStatement_23 rfl ?_
  refine V.iload_n X d_Cp_whileStatement_24 rfl ?_
  refine V.bd (val := vV) X hres (hF S3 _ o3 rfl) Y_Cp_statement k_Cp_166 rfl rfl rfl rfl (Rok.lt (by omega)) d_Cp_whileStatement_25 ?_
  intro v4 S4 x4 hres
  have r4 := hf S3
  rw [x4] at r4
  have o4 : Ok m S4 := r4.1 o3
  try dsimp only at hres
  refine V.aload_n X d_Cp_whileStatement_28 rfl ?_
  refine g_Cp_code X k_Cp_28 d_Cp_whileStatement_29 ?_
  refine V.bipush (v := nI 16) X d_Cp_whileStatement_32 (by decide +kernel) ?_
  refine V.iload_n X d_Cp_whileStatement_34 rfl ?_
  refine V.iconst (v := nI 0) X d_Cp_whileStatement_35 (by decide +kernel) ?_
  refine V.callV1 X (k_add (S := S4) h o4) Y_Co_add k_Cp_120 19 rfl rfl rfl rfl rfl (Rok.lt (by omega)) d_Cp_whileStatement_36 ?_
  have o5 : Ok m (cadd S4 16 S.2.2.2.2.2.2.2.2.1 0) := ok_add o4 (by decide)
  refine V.pop X d_Cp_whileStatement_39 rfl ?_
  refine V.aload_n X d_Cp_whileStatement_40 rfl ?_
  refine g_Cp_code X k_Cp_28 d_Cp_whileStatement_41 ?_
  refine V.iload_n X d_Cp_whileStatement_44 rfl ?_
  refine V.callV0 X (k_jump (S := (cadd S4 16 S.2.2.2.2.2.2.2.2.1 0)) h o5 (by omega)) Y_Co_jumpToEnd k_Cp_242 19 rfl rfl rfl rfl rfl (Rok.lt (by omega)) d_Cp_whileStatement_45 ?_
  have o6 : Ok m (cjmp (cadd S4 16 S.2.2.2.2.2.2.2.2.1 0) v2) := ok_jmp o5
  subst hres
  exact V.vret X d_Cp_whileStatement_48 rfl rfl
set_option maxHeartbeats 4000000 in
set_option maxRecDepth 100000 in
theorem c_Cp_stmts {l : Launch} {z : Zt} {a u w : Nat → Nat} {P : Pm} {F : Int32} {T : Tk} {m : Nat} {D : Co} {M : Mc} {S : CS} {Rr : CR} (h : Nat) (hlt : l.stackTraces = false) (t : TkOk T m) (o : Ok m S) {f : CS → CR} {d k : Nat} (hk : 31 ≤ k) (hf : ∀ S, RS m S (f S).2) (hF : ∀ (S : CS) (Rr : CR), Ok m S → f S = Rr → XC l (Gz z) (h + k) y_Cp_statement b_Cp_statement 2 none [.ref (a 2), .int (nI d)] (Wc z a u w P F T D M S) (oc vV Rr.1) (Wr z a u w P F T D M Rr)) (hres : cp_stmts T f S = Rr) : XC l (Gz z) (h + k + 1) y_Cp_statements b_Cp_statements 3 none [.ref (a 2), .int (nI d)] (Wc z a u w P F T D M S) (oc vV Rr.1) (Wr z a u w P F T D M Rr) := by
  rw [cp_stmts] at hres
  refine XC.ofV (by decide +kernel) rfl ?_
  intro p e s m9 below meth c X hnm
  refine V.lvs (lv' := [(0, .ref (a 2)), (1, .int (nI d))]) rfl ?_
  refine V.aload_n X d_Cp_statements_0 rfl ?_
  refine V.iload_n X d_Cp_statements_1 rfl ?_
  refine V.bd (val := vV) X hres (hF S _ o rfl) Y_Cp_statement k_Cp_166 rfl rfl rfl rfl (Rok.lt (by omega)) d_Cp_statements_2 ?_
  intro v1 S1 x1 hres
  have r1 := hf S
  rw [x1] at r1
  have o1 : Ok m S1 := r1.1 o
  try dsimp only at hres
  refine V.iconst (v := nI 0) X d_Cp_statements_5 (by decide +kernel) ?_
  refine V.istore_n (lv' := [(0, _), (1, _), (2, _)]) X d_Cp_statements_6 (by decide) rfl ?_
  suffices loop7 : ∀ (n i : Nat) (S : CS), i + n = 150 → Ok m S → bd (cp_rep T 11 (f) n) (fun _ => cp_expect T 3) S = Rr → V p l e (Rm (h + k + 1)) s m9 ([.ref (a 2), .int (nI d)] : List Value).toArray below meth c (Gz z) 3 0 0 (XE below (Gz z) (oc vV Rr.1) (Wr z a u w P F T D M Rr) ([.ref (a 2), .int (nI d)] : List Value).toArray s) (Wc z a u w P F T D M S) 7 [(0, .ref (a 2)), (1, .int (nI d)), (2, .int (nI i))] [] from loop7 150 0 _ rfl o1 hres
  intro n
  induction n with
  | zero =>
    intro i S hi o hres
    rw [bd_rep_0] at hres
    refine V.iload_n X d_Cp_statements_7 rfl ?_
    refine V.sipush (v := nI 150) X d_Cp_statements_8 (by decide +kernel) ?_
    refine V.cmpN_ge (tgt := 38) X d_Cp_statements_11 (by decide) (by first | omega | (dsimp only; omega) | (simp only [] at *; omega)) (by first | omega | (dsimp only; omega) | (simp only [] at *; omega)) (fun h11 => ?_) (fun h11 => absurd h11 (by omega))
    refine V.aload_n X d_Cp_statements_38 rfl ?_
    refine V.getK X 3 (by decide) k_Cp_169 d_Cp_statements_39 ?_
    refine V.bd (val := vV) X (bd_tail hres) (c_Cp_expect (S := S) h hlt t o (q := 3) (by decide) rfl) Y_Cp_expect k_Cp_59 rfl rfl rfl rfl (Rok.lt (by omega)) d_Cp_statements_42 ?_
    intro v2 S2 x2 hres
    have r2 := rs_expect (q := 3) t (by decide) S
    rw [x2] at r2
    have o2 : Ok m S2 := r2.1 o
    try dsimp only at hres
    subst hres
    exact V.vret X d_Cp_statements_45 rfl rfl
  | succ n ih =>
    intro i S hi o hres
    refine V.iload_n X d_Cp_statements_7 rfl ?_
    refine V.sipush (v := nI 150) X d_Cp_statements_8 (by decide +kernel) ?_
    refine V.cmpN_ge (tgt := 38) X d_Cp_statements_11 (by decide) (by first | omega | (dsimp only; omega) | (simp only [] at *; omega)) (by first | omega | (dsimp only; omega) | (simp only [] at *; omega)) (fun h11 => absurd h11 (by omega)) (fun h11 => ?_)
    refine V.aload_n X d_Cp_statements_14 rfl ?_
    refine g_Cp_tokens X k_Cp_12 d_Cp_statements_15 ?_
    refine V.getK X 11 (by decide) k_Cp_130 d_Cp_statements_18 ?_
    by_cases h21 : kd T S.1 = 11
    · rw [bd_rep_t h21] at hres
      refine V.callV1 X (k_acc_t (S := S) h t o (by decide) h21) Y_Tk_accept k_Cp_84 3 rfl rfl rfl rfl rfl (Rok.lt (by omega)) d_Cp_statements_21 ?_
      have o3 := ok_adv (S := S) t o h21 (by decide)
      refine V.ifN_eq (tgt := 38) X d_Cp_statements_24 (by decide) (by decide) (fun h => absurd h (by decide)) (fun _ => ?_)
      refine V.aload_n X d_Cp_statements_27 rfl ?_
      refine V.iload_n X d_Cp_statements_28 rfl ?_
      refine V.bd (val := vV) X hres (hF (adv S) _ o3 rfl) Y_Cp_statement k_Cp_166 rfl rfl rfl rfl (Rok.lt (by omega)) d_Cp_statements_29 ?_
      intro v4 S4 x4 hres
      have r4 := hf (adv S)
      rw [x4] at r4
      have o4 : Ok m S4 := r4.1 o3
      try dsimp only at hres
      refine V.iinc (lv' := [(0, _), (1, _), (2, _)]) X d_Cp_statements_32 rfl (show _ + nI 1 = _ from nI_add _ 1) (by decide) rfl ?_
      refine V.goto (tgt := 7) X d_Cp_statements_35 (by decide) ?_
      exact ih _ _ (by omega) o4 hres
    · rw [bd_rep_f h21] at hres
      refine V.callV1 X (k_acc_f (S := S) h t o (by decide) h21) Y_Tk_accept k_Cp_84 3 rfl rfl rfl rfl rfl (Rok.lt (by omega)) d_Cp_statements_21 ?_
      refine V.ifN_eq (tgt := 38) X d_Cp_statements_24 (by decide) (by decide) (fun _ => ?_) (fun h => absurd rfl h)
      refine V.aload_n X d_Cp_statements_38 rfl ?_
      refine V.getK X 3 (by decide) k_Cp_169 d_Cp_statements_39 ?_
      refine V.bd (val := vV) X (bd_tail hres) (c_Cp_expect (S := S) h hlt t o (q := 3) (by decide) rfl) Y_Cp_expect k_Cp_59 rfl rfl rfl rfl (Rok.lt (by omega)) d_Cp_statements_42 ?_
      intro v5 S5 x5 hres
      have r5 := rs_expect (q := 3) t (by decide) S
      rw [x5] at r5
      have o5 : Ok m S5 := r5.1 o
      try dsimp only at hres
      subst hres
      exact V.vret X d_Cp_statements_45 rfl rfl
set_option maxHeartbeats 4000000 in
theorem c_Cp_deep0 {l : Launch} {z : Zt} {a u w : Nat → Nat} {P : Pm} {F : Int32} {T : Tk} {m : Nat} {D : Co} {M : Mc} {S : CS} (h : Nat) (hlt : l.stackTraces = false) (t : TkOk T m) (o : Ok m S)  : XC l (Gz z) (h + 1) y_Cp_goDeeper b_Cp_goDeeper 2 none [.ref (a 2), .int (nI 8)] (Wc z a u w P F T D M S) (.inr IAE) (Wr z a u w P F T D M (cp_no T S)) := by
  refine XC.ofV (by decide +kernel) rfl ?_
  intro p e s m9 below meth c X hnm
  refine V.lvs (lv' := [(0, .ref (a 2)), (1, .int (nI 8))]) rfl ?_
  refine V.iload_n X d_Cp_goDeeper_0 rfl ?_
  refine V.bipush (v := nI 8) X d_Cp_goDeeper_1 (by decide +kernel) ?_
  refine V.cmpN_ne (tgt := 17) X d_Cp_goDeeper_3 (by decide) (by first | omega | (dsimp only; omega) | (simp only [] at *; omega)) (by first | omega | (dsimp only; omega) | (simp only [] at *; omega)) (fun h3 => absurd h3 (fun q => q rfl)) (fun h3 => ?_)
  refine V.aload_n X d_Cp_goDeeper_6 rfl ?_
  refine V.aload_n X d_Cp_goDeeper_7 rfl ?_
  refine g_Cp_tokens X k_Cp_12 d_Cp_goDeeper_8 ?_
  refine V.callV1 X (k_place (S := S) h t o) Y_Tk_place k_Cp_70 3 rfl rfl rfl rfl rfl (Rok.lt (by omega)) d_Cp_goDeeper_11 ?_
  exact V.callVX X (c_Cp_refuse (S := S) h hlt) Y_Cp_refuse k_Cp_74 2 rfl rfl rfl rfl rfl (Rok.lt (by omega)) d_Cp_goDeeper_14 rfl rfl
set_option maxHeartbeats 4000000 in
theorem c_Cp_deepS {l : Launch} {z : Zt} {a u w : Nat → Nat} {P : Pm} {F : Int32} {T : Tk} {m : Nat} {D : Co} {M : Mc} {S : CS} (h : Nat) (hlt : l.stackTraces = false) (t : TkOk T m) (o : Ok m S) {d q : Nat} (hd : d < 8) (hk : kd T S.1 = q) (hq : q < 27) : XC l (Gz z) (h + 1) y_Cp_goDeeper b_Cp_goDeeper 2 none [.ref (a 2), .int (nI d)] (Wc z a u w P F T D M S) (.inl none) (Wc z a u w P F T D M (adv S)) := by
  refine XC.ofV (by decide +kernel) rfl ?_
  intro p e s m9 below meth c X hnm
  refine V.lvs (lv' := [(0, .ref (a 2)), (1, .int (nI d))]) rfl ?_
  refine V.iload_n X d_Cp_goDeeper_0 rfl ?_
  refine V.bipush (v := nI 8) X d_Cp_goDeeper_1 (by decide +kernel) ?_
  refine V.cmpN_ne (tgt := 17) X d_Cp_goDeeper_3 (by decide) (by first | omega | (dsimp only; omega) | (simp only [] at *; omega)) (by first | omega | (dsimp only; omega) | (simp only [] at *; omega)) (fun h3 => ?_) (fun h3 => absurd h3 (by omega))
  refine V.aload_n X d_Cp_goDeeper_17 rfl ?_
  refine g_Cp_tokens X k_Cp_12 d_Cp_goDeeper_18 ?_
  refine V.callV0 X (k_advance (S := S) h t o) Y_Tk_advance k_Cp_99 3 rfl rfl rfl rfl rfl (Rok.lt (by omega)) d_Cp_goDeeper_21 ?_
  have o1 := ok_adv (S := S) t o hk hq
  exact V.vret X d_Cp_goDeeper_24 rfl rfl
set_option maxHeartbeats 4000000 in
set_option maxRecDepth 100000 in
theorem c_Cp_stm0 {l : Launch} {z : Zt} {a u w : Nat → Nat} {P : Pm} {F : Int32} {T : Tk} {m : Nat} {D : Co} {M : Mc} {S : CS} {Rr : CR} (h : Nat) (hlt : l.stackTraces = false) (t : TkOk T m) (o : Ok m S)  (hres : cp_stm T 0 S = Rr) : XC l (Gz z) (h + 32) y_Cp_statement b_Cp_statement 2 none [.ref (a 2), .int (nI 8)] (Wc z a u w P F T D M S) (oc vV Rr.1) (Wr z a u w P F T D M Rr) := by
  rw [cp_stm, cp_st] at hres
  refine XC.ofV (by decide +kernel) rfl ?_
  intro p e s m9 below meth c X hnm
  refine V.lvs (lv' := [(0, .ref (a 2)), (1, .int (nI 8))]) rfl ?_
  refine V.getSw X k_Cp_172 d_Cp_statement_0 ?_
  refine V.aload_n X d_Cp_statement_3 rfl ?_
  refine g_Cp_tokens X k_Cp_12 d_Cp_statement_4 ?_
  refine V.callV1 X (k_kind (S := S) h t o) Y_Tk_kind k_Cp_63 3 rfl rfl rfl rfl rfl (Rok.lt (by omega)) d_Cp_statement_7 ?_
  refine V.ordinal X h (t.some o.1).2 k_Cp_177 rfl (Rok.lt (by omega)) d_Cp_statement_10 ?_
  refine V.ldSw X (t.some o.1).2 d_Cp_statement_13 ?_
  by_cases w25 : kd T S.1 = 25
  · first | rw [if_pos w25] at hres | rw [if_neg w25] at hres | skip
    refine V.eqs (sk' := [.int (nI 1)]) (by rw [w25]; rfl) ?_
    refine V.tableIn (off := 34) (tgt := 48) X d_Cp_statement_14 (by decide +kernel) (by decide +kernel) (by decide +kernel) (by decide) ?_
    refine V.aload_n X d_Cp_statement_48 rfl ?_
    refine g_Cp_tokens X k_Cp_12 d_Cp_statement_49 ?_
    refine V.getK X 10 (by decide) k_Cp_180 d_Cp_statement_52 ?_
    refine V.callV1 X (k_isBefore (S := S) h t o w25 (by decide)) Y_Tk_isBefore k_Cp_183 3 rfl rfl rfl rfl rfl (Rok.lt (by omega)) d_Cp_statement_55 ?_
    refine V.ifB_eq (tgt := 68) X d_Cp_statement_58 (by decide) (fun h58 => ?_) (fun h58 => ?_)
    · replace h58 := of_decide_eq_false h58
      first | rw [if_pos h58] at hres | rw [if_neg h58] at hres | skip
      refine V.aload_n X d_Cp_statement_68 rfl ?_
      refine V.bd (val := vV) X (bd_tail hres) (c_Cp_call (S := S) h hlt t o w25 rfl) Y_Cp_procedureCall k_Cp_189 rfl rfl rfl rfl (Rok.lt (by omega)) d_Cp_statement_69 ?_
      intro v1 S1 x1 hres
      have r1 := rs_call t S w25
      rw [x1] at r1
      have o1 : Ok m S1 := r1.1 o
      try dsimp only at hres
      refine V.goto (tgt := 134) X d_Cp_statement_72 (by decide) ?_
      subst hres
      exact V.vret X d_Cp_statement_134 rfl rfl
    · replace h58 := of_decide_eq_true h58
      first | rw [if_pos h58] at hres | rw [if_neg h58] at hres | skip
      refine V.aload_n X d_Cp_statement_61 rfl ?_
      refine V.bd (val := vV) X (bd_tail hres) (c_Cp_assign (S := S) h hlt t o w25 rfl) Y_Cp_assignment k_Cp_186 rfl rfl rfl rfl (Rok.lt (by omega)) d_Cp_statement_62 ?_
      intro v2 S2 x2 hres
      have r2 := rs_assign t S w25
      rw [x2] at r2
      have o2 : Ok m S2 := r2.1 o
      try dsimp only at hres
      refine V.goto (tgt := 134) X d_Cp_statement_65 (by decide) ?_
      subst hres
      exact V.vret X d_Cp_statement_134 rfl rfl
  · first | rw [if_pos w25] at hres | rw [if_neg w25] at hres | skip
    by_cases w2 : kd T S.1 = 2
    · first | rw [if_pos w2] at hres | rw [if_neg w2] at hres | skip
      refine V.eqs (sk' := [.int (nI 2)]) (by rw [w2]; rfl) ?_
      refine V.tableIn (off := 61) (tgt := 75) X d_Cp_statement_14 (by decide +kernel) (by decide +kernel) (by decide +kernel) (by decide) ?_
      refine V.aload_n X d_Cp_statement_75 rfl ?_
      refine V.iload_n X d_Cp_statement_76 rfl ?_
      subst hres
      exact V.callVX X (c_Cp_deep0 (S := S) h hlt t o) Y_Cp_goDeeper k_Cp_192 2 rfl rfl rfl rfl rfl (Rok.lt (by omega)) d_Cp_statement_77 rfl rfl
    · first | rw [if_pos w2] at hres | rw [if_neg w2] at hres | skip
      by_cases w4 : kd T S.1 = 4
      · first | rw [if_pos w4] at hres | rw [if_neg w4] at hres | skip
        refine V.eqs (sk' := [.int (nI 3)]) (by rw [w4]; rfl) ?_
        refine V.tableIn (off := 76) (tgt := 90) X d_Cp_statement_14 (by decide +kernel) (by decide +kernel) (by decide +kernel) (by decide) ?_
        refine V.aload_n X d_Cp_statement_90 rfl ?_
        refine V.iload_n X d_Cp_statement_91 rfl ?_
        subst hres
        exact V.callVX X (c_Cp_deep0 (S := S) h hlt t o) Y_Cp_goDeeper k_Cp_192 2 rfl rfl rfl rfl rfl (Rok.lt (by omega)) d_Cp_statement_92 rfl rfl
      · first | rw [if_pos w4] at hres | rw [if_neg w4] at hres | skip
        by_cases w7 : kd T S.1 = 7
        · first | rw [if_pos w7] at hres | rw [if_neg w7] at hres | skip
          refine V.eqs (sk' := [.int (nI 4)]) (by rw [w7]; rfl) ?_
          refine V.tableIn (off := 91) (tgt := 105) X d_Cp_statement_14 (by decide +kernel) (by decide +kernel) (by decide +kernel) (by decide) ?_
          refine V.aload_n X d_Cp_statement_105 rfl ?_
          refine V.iload_n X d_Cp_statement_106 rfl ?_
          subst hres
          exact V.callVX X (c_Cp_deep0 (S := S) h hlt t o) Y_Cp_goDeeper k_Cp_192 2 rfl rfl rfl rfl rfl (Rok.lt (by omega)) d_Cp_statement_107 rfl rfl
        · first | rw [if_pos w7] at hres | rw [if_neg w7] at hres | skip
          by_cases w9 : kd T S.1 = 9
          · first | rw [if_pos w9] at hres | rw [if_neg w9] at hres | skip
            refine V.eqs (sk' := [.int (nI 5)]) (by rw [w9]; rfl) ?_
            refine V.tableIn (off := 106) (tgt := 120) X d_Cp_statement_14 (by decide +kernel) (by decide +kernel) (by decide +kernel) (by decide) ?_
            refine V.aload_n X d_Cp_statement_120 rfl ?_
            refine g_Cp_tokens X k_Cp_12 d_Cp_statement_121 ?_
            refine V.callV0 X (k_advance (S := S) h t o) Y_Tk_advance k_Cp_99 3 rfl rfl rfl rfl rfl (Rok.lt (by omega)) d_Cp_statement_124 ?_
            have o3 := ok_adv (S := S) t o w9 (by decide)
            refine V.aload_n X d_Cp_statement_127 rfl ?_
            refine V.bd (val := vV) X (bd_tail hres) (c_Cp_write (S := (adv S)) h hlt t o3 rfl) Y_Cp_writeStatement k_Cp_201 rfl rfl rfl rfl (Rok.lt (by omega)) d_Cp_statement_128 ?_
            intro v4 S4 x4 hres
            have r4 := rs_write t (adv S)
            rw [x4] at r4
            have o4 : Ok m S4 := r4.1 o3
            try dsimp only at hres
            refine V.goto (tgt := 134) X d_Cp_statement_131 (by decide) ?_
            subst hres
            exact V.vret X d_Cp_statement_134 rfl rfl
          · first | rw [if_pos w9] at hres | rw [if_neg w9] at hres | skip
            have hdf : ∀ k, k < 29 → k ≠ 25 ∧ k ≠ 2 ∧ k ≠ 4 ∧ k ≠ 7 ∧ k ≠ 9 → ((nI (swm k)).toInt < 1 ∨ 5 < (nI (swm k)).toInt) := by decide +kernel
            refine V.tableOut (tgt := 134) X d_Cp_statement_14 (hdf _ (t.some o.1).2 ⟨w25, w2, w4, w7, w9⟩) (by decide) ?_
            subst hres
            exact V.vret X d_Cp_statement_134 rfl rfl
set_option maxHeartbeats 4000000 in
set_option maxRecDepth 100000 in
theorem c_Cp_stmS {l : Launch} {z : Zt} {a u w : Nat → Nat} {P : Pm} {F : Int32} {T : Tk} {m : Nat} {D : Co} {M : Mc} {S : CS} {Rr : CR} (h : Nat) (hlt : l.stackTraces = false) (t : TkOk T m) (o : Ok m S) {n d k : Nat} (hk : 31 ≤ k) (hd : d + n + 1 = 8) (hF : ∀ (S : CS) (Rr : CR), Ok m S → cp_stm T n S = Rr → XC l (Gz z) (h + k) y_Cp_statement b_Cp_statement 2 none [.ref (a 2), .int (nI (d + 1))] (Wc z a u w P F T D M S) (oc vV Rr.1) (Wr z a u w P F T D M Rr)) (hres : cp_stm T (n + 1) S = Rr) : XC l (Gz z) (h + k + 2) y_Cp_statement b_Cp_statement 2 none [.ref (a 2), .int (nI d)] (Wc z a u w P F T D M S) (oc vV Rr.1) (Wr z a u w P F T D M Rr) := by
  rw [cp_stm, cp_st] at hres
  refine XC.ofV (by decide +kernel) rfl ?_
  intro p e s m9 below meth c X hnm
  refine V.lvs (lv' := [(0, .ref (a 2)), (1, .int (nI d))]) rfl ?_
  refine V.getSw X k_Cp_172 d_Cp_statement_0 ?_
  refine V.aload_n X d_Cp_statement_3 rfl ?_
  refine g_Cp_tokens X k_Cp_12 d_Cp_statement_4 ?_
  refine V.callV1 X (k_kind (S := S) h t o) Y_Tk_kind k_Cp_63 3 rfl rfl rfl rfl rfl (Rok.lt (by omega)) d_Cp_statement_7 ?_
  refine V.ordinal X h (t.some o.1).2 k_Cp_177 rfl (Rok.lt (by omega)) d_Cp_statement_10 ?_
  refine V.ldSw X (t.some o.1).2 d_Cp_statement_13 ?_
  by_cases w25 : kd T S.1 = 25
  · first | rw [if_pos w25] at hres | rw [if_neg w25] at hres | skip
    refine V.eqs (sk' := [.int (nI 1)]) (by rw [w25]; rfl) ?_
    refine V.tableIn (off := 34) (tgt := 48) X d_Cp_statement_14 (by decide +kernel) (by decide +kernel) (by decide +kernel) (by decide) ?_
    refine V.aload_n X d_Cp_statement_48 rfl ?_
    refine g_Cp_tokens X k_Cp_12 d_Cp_statement_49 ?_
    refine V.getK X 10 (by decide) k_Cp_180 d_Cp_statement_52 ?_
    refine V.callV1 X (k_isBefore (S := S) h t o w25 (by decide)) Y_Tk_isBefore k_Cp_183 3 rfl rfl rfl rfl rfl (Rok.lt (by omega)) d_Cp_statement_55 ?_
    refine V.ifB_eq (tgt := 68) X d_Cp_statement_58 (by decide) (fun h58 => ?_) (fun h58 => ?_)
    · replace h58 := of_decide_eq_false h58
      first | rw [if_pos h58] at hres | rw [if_neg h58] at hres | skip
      refine V.aload_n X d_Cp_statement_68 rfl ?_
      refine V.bd (val := vV) X (bd_tail hres) (c_Cp_call (S := S) h hlt t o w25 rfl) Y_Cp_procedureCall k_Cp_189 rfl rfl rfl rfl (Rok.lt (by omega)) d_Cp_statement_69 ?_
      intro v1 S1 x1 hres
      have r1 := rs_call t S w25
      rw [x1] at r1
      have o1 : Ok m S1 := r1.1 o
      try dsimp only at hres
      refine V.goto (tgt := 134) X d_Cp_statement_72 (by decide) ?_
      subst hres
      exact V.vret X d_Cp_statement_134 rfl rfl
    · replace h58 := of_decide_eq_true h58
      first | rw [if_pos h58] at hres | rw [if_neg h58] at hres | skip
      refine V.aload_n X d_Cp_statement_61 rfl ?_
      refine V.bd (val := vV) X (bd_tail hres) (c_Cp_assign (S := S) h hlt t o w25 rfl) Y_Cp_assignment k_Cp_186 rfl rfl rfl rfl (Rok.lt (by omega)) d_Cp_statement_62 ?_
      intro v2 S2 x2 hres
      have r2 := rs_assign t S w25
      rw [x2] at r2
      have o2 : Ok m S2 := r2.1 o
      try dsimp only at hres
      refine V.goto (tgt := 134) X d_Cp_statement_65 (by decide) ?_
      subst hres
      exact V.vret X d_Cp_statement_134 rfl rfl
  · first | rw [if_pos w25] at hres | rw [if_neg w25] at hres | skip
    by_cases w2 : kd T S.1 = 2
    · first | rw [if_pos w2] at hres | rw [if_neg w2] at hres | skip
      refine V.eqs (sk' := [.int (nI 2)]) (by rw [w2]; rfl) ?_
      refine V.tableIn (off := 61) (tgt := 75) X d_Cp_statement_14 (by decide +kernel) (by decide +kernel) (by decide +kernel) (by decide) ?_
      refine V.aload_n X d_Cp_statement_75 rfl ?_
      refine V.iload_n X d_Cp_statement_76 rfl ?_
      refine V.callV0 X (c_Cp_deepS (S := S) h hlt t o (d := d) (by omega) w2 (by decide)) Y_Cp_goDeeper k_Cp_192 2 rfl rfl rfl rfl rfl (Rok.lt (by omega)) d_Cp_statement_77 ?_
      have oa := ok_adv (S := S) t o w2 (by decide)
      refine V.aload_n X d_Cp_statement_80 rfl ?_
      refine V.iload_n X d_Cp_statement_81 rfl ?_
      refine V.iconst (v := nI 1) X d_Cp_statement_82 (by decide +kernel) ?_
      refine V.iadd X d_Cp_statement_83 (nI_add _ _) ?_
      refine V.bd (val := vV) X (bd_tail hres) (c_Cp_stmts (d := d + 1) (k := k) (S := (adv S)) h hlt t oa hk (rs_stm t n) hF rfl) Y_Cp_statements k_Cp_117 rfl rfl rfl rfl (Rok.lt (by omega)) d_Cp_statement_84 ?_
      intro v3 S3 x3 hres
      have r3 := rs_stmts t (rs_stm t n) (adv S)
      rw [x3] at r3
      have o3 : Ok m S3 := r3.1 oa
      try dsimp only at hres
      refine V.goto (tgt := 134) X d_Cp_statement_87 (by decide) ?_
      subst hres
      exact V.vret X d_Cp_statement_134 rfl rfl
    · first | rw [if_pos w2] at hres | rw [if_neg w2] at hres | skip
      by_cases w4 : kd T S.1 = 4
      · first | rw [if_pos w4] at hres | rw [if_neg w4] at hres | skip
        refine V.eqs (sk' := [.int (nI 3)]) (by rw [w4]; rfl) ?_
        refine V.tableIn (off := 76) (tgt := 90) X d_Cp_statement_14 (by decide +kernel) (by decide +kernel) (by decide +kernel) (by decide) ?_
        refine V.aload_n X d_Cp_statement_90 rfl ?_
        refine V.iload_n X d_Cp_statement_91 rfl ?_
        refine V.callV0 X (c_Cp_deepS (S := S) h hlt t o (d := d) (by omega) w4 (by decide)) Y_Cp_goDeeper k_Cp_192 2 rfl rfl rfl rfl rfl (Rok.lt (by omega)) d_Cp_statement_92 ?_
        have oa := ok_adv (S := S) t o w4 (by decide)
        refine V.aload_n X d_Cp_statement_95 rfl ?_
        refine V.iload_n X d_Cp_statement_96 rfl ?_
        refine V.iconst (v := nI 1) X d_Cp_statement_97 (by decide +kernel) ?_
        refine V.iadd X d_Cp_statement_98 (nI_add _ _) ?_
        refine V.bd (val := vV) X (bd_tail hres) (c_Cp_if (d := d + 1) (k := k) (S := (adv S)) h hlt t oa hk (rs_stm t n) hF rfl) Y_Cp_ifStatement k_Cp_195 rfl rfl rfl rfl (Rok.lt (by omega)) d_Cp_statement_99 ?_
        intro v4 S4 x4 hres
        have r4 := rs_if t (rs_stm t n) (adv S)
        rw [x4] at r4
        have o4 : Ok m S4 := r4.1 oa
        try dsimp only at hres
        refine V.goto (tgt := 134) X d_Cp_statement_102 (by decide) ?_
        subst hres
        exact V.vret X d_Cp_statement_134 rfl rfl
      · first | rw [if_pos w4] at hres | rw [if_neg w4] at hres | skip
        by_cases w7 : kd T S.1 = 7
        · first | rw [if_pos w7] at hres | rw [if_neg w7] at hres | skip
          refine V.eqs (sk' := [.int (nI 4)]) (by rw [w7]; rfl) ?_
          refine V.tableIn (off := 91) (tgt := 105) X d_Cp_statement_14 (by decide +kernel) (by decide +kernel) (by decide +kernel) (by decide) ?_
          refine V.aload_n X d_Cp_statement_105 rfl ?_
          refine V.iload_n X d_Cp_statement_106 rfl ?_
          refine V.callV0 X (c_Cp_deepS (S := S) h hlt t o (d := d) (by omega) w7 (by decide)) Y_Cp_goDeeper k_Cp_192 2 rfl rfl rfl rfl rfl (Rok.lt (by omega)) d_Cp_statement_107 ?_
          have oa := ok_adv (S := S) t o w7 (by decide)
          refine V.aload_n X d_Cp_statement_110 rfl ?_
          refine V.iload_n X d_Cp_statement_111 rfl ?_
          refine V.iconst (v := nI 1) X d_Cp_statement_112 (by decide +kernel) ?_
          refine V.iadd X d_Cp_statement_113 (nI_add _ _) ?_
          refine V.bd (val := vV) X (bd_tail hres) (c_Cp_while (d := d + 1) (k := k) (S := (adv S)) h hlt t oa hk (rs_stm t n) hF rfl) Y_Cp_whileStatement k_Cp_198 rfl rfl rfl rfl (Rok.lt (by omega)) d_Cp_statement_114 ?_
          intro v5 S5 x5 hres
          have r5 := rs_while t (rs_stm t n) (adv S)
          rw [x5] at r5
          have o5 : Ok m S5 := r5.1 oa
          try dsimp only at hres
          refine V.goto (tgt := 134) X d_Cp_statement_117 (by decide) ?_
          subst hres
          exact V.vret X d_Cp_statement_134 rfl rfl
        · first | rw [if_pos w7] at hres | rw [if_neg w7] at hres | skip
          by_cases w9 : kd T S.1 = 9
          · first | rw [if_pos w9] at hres | rw [if_neg w9] at hres | skip
            refine V.eqs (sk' := [.int (nI 5)]) (by rw [w9]; rfl) ?_
            refine V.tableIn (off := 106) (tgt := 120) X d_Cp_statement_14 (by decide +kernel) (by decide +kernel) (by decide +kernel) (by decide) ?_
            refine V.aload_n X d_Cp_statement_120 rfl ?_
            refine g_Cp_tokens X k_Cp_12 d_Cp_statement_121 ?_
            refine V.callV0 X (k_advance (S := S) h t o) Y_Tk_advance k_Cp_99 3 rfl rfl rfl rfl rfl (Rok.lt (by omega)) d_Cp_statement_124 ?_
            have o6 := ok_adv (S := S) t o w9 (by decide)
            refine V.aload_n X d_Cp_statement_127 rfl ?_
            refine V.bd (val := vV) X (bd_tail hres) (c_Cp_write (S := (adv S)) h hlt t o6 rfl) Y_Cp_writeStatement k_Cp_201 rfl rfl rfl rfl (Rok.lt (by omega)) d_Cp_statement_128 ?_
            intro v7 S7 x7 hres
            have r7 := rs_write t (adv S)
            rw [x7] at r7
            have o7 : Ok m S7 := r7.1 o6
            try dsimp only at hres
            refine V.goto (tgt := 134) X d_Cp_statement_131 (by decide) ?_
            subst hres
            exact V.vret X d_Cp_statement_134 rfl rfl
          · first | rw [if_pos w9] at hres | rw [if_neg w9] at hres | skip
            have hdf : ∀ k, k < 29 → k ≠ 25 ∧ k ≠ 2 ∧ k ≠ 4 ∧ k ≠ 7 ∧ k ≠ 9 → ((nI (swm k)).toInt < 1 ∨ 5 < (nI (swm k)).toInt) := by decide +kernel
            refine V.tableOut (tgt := 134) X d_Cp_statement_14 (hdf _ (t.some o.1).2 ⟨w25, w2, w4, w7, w9⟩) (by decide) ?_
            subst hres
            exact V.vret X d_Cp_statement_134 rfl rfl
theorem c_Cp_stm {l : Launch} {z : Zt} {a u w : Nat → Nat} {P : Pm} {F : Int32} {T : Tk} {m : Nat} {D : Co} {M : Mc} (h : Nat) (hlt : l.stackTraces = false) (t : TkOk T m) : ∀ (n d : Nat) (S : CS) (Rr : CR), d + n = 8 → Ok m S → cp_stm T n S = Rr → XC l (Gz z) (h + (2 * n + 32)) y_Cp_statement b_Cp_statement 2 none [.ref (a 2), .int (nI d)] (Wc z a u w P F T D M S) (oc vV Rr.1) (Wr z a u w P F T D M Rr) := by
  intro n
  induction n with
  | zero =>
    intro d S Rr hd o hres
    cases (show d = 8 from hd)
    exact c_Cp_stm0 h hlt t o hres
  | succ n ih =>
    intro d S Rr hd o hres
    exact c_Cp_stmS (k := 2 * n + 32) h hlt t o (by omega) hd (fun S Rr o hr => ih (d + 1) S Rr (by omega) o hr) hres
theorem c_Cp_stmts8 {l : Launch} {z : Zt} {a u w : Nat → Nat} {P : Pm} {F : Int32} {T : Tk} {m : Nat} {D : Co} {M : Mc} {S : CS} {Rr : CR} (h : Nat) (hlt : l.stackTraces = false) (t : TkOk T m) (o : Ok m S) (hres : cp_stmts T (cp_stm T 8) S = Rr) : XC l (Gz z) (h + 49) y_Cp_statements b_Cp_statements 3 none [.ref (a 2), .int (nI 0)] (Wc z a u w P F T D M S) (oc vV Rr.1) (Wr z a u w P F T D M Rr) :=
  c_Cp_stmts (d := 0) (k := 48) h hlt t o (by decide) (rs_stm t 8) (fun S Rr o hr => c_Cp_stm h hlt t 8 0 S Rr rfl o hr) hres
