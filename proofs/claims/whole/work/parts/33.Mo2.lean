/-! ===== Model: tokens, compile ===== -/
def mo_cutWord_go (p1 : Nat) : Nat → Nat → Nat → Nat → Bool → Int64 → MS → MS → Prop
  | 0, _, _, _, _, _, _, _ => False
  | n + 1, tag, x2N, x3N, x4B, x5L, S, S' => match tag with
    | 0 => x3N < 2147483648 ∧ ((r_length S) < 2147483648 ∧ (((r_length S) ≤ x3N ∧ (mo_cutWord_go p1 n 1 x2N x3N x4B x5L S S')) ∨ (¬ (r_length S) ≤ x3N ∧ ((p1 + 10) < 2147483648 ∧ (((p1 + 10) ≤ x3N ∧ (mo_cutWord_go p1 n 1 x2N x3N x4B x5L S S')) ∨ (¬ (p1 + 10) ≤ x3N ∧ (x3N < 300 ∧ (((r_text S) x3N) < 2147483648 ∧ (((isD ((r_text S) x3N)) = true ∧ ((x4B = true ∧ (x3N < 300 ∧ (mo_cutWord_go p1 n 0 x2N (x3N + 1) x4B ((x5L <<< ((nI 8).toInt64 &&& 63)) ||| ((nI ((r_text S) x3N)).toInt64)) S S'))) ∨ (¬ x4B = true ∧ (x3N < 300 ∧ (mo_cutWord_go p1 n 0 x2N (x3N + 1) x4B (((x5L * (10 : Int64)) + ((nI ((r_text S) x3N)).toInt64)) - (48 : Int64)) S S'))))) ∨ (¬ (isD ((r_text S) x3N)) = true ∧ ((x4B = true ∧ (x3N < 300 ∧ (((isL ((r_text S) x3N)) = true ∧ (x3N < 300 ∧ (mo_cutWord_go p1 n 0 x2N (x3N + 1) x4B ((x5L <<< ((nI 8).toInt64 &&& 63)) ||| ((nI ((r_text S) x3N)).toInt64)) S S'))) ∨ (¬ (isL ((r_text S) x3N)) = true ∧ (mo_cutWord_go p1 n 1 x2N x3N x4B x5L S S'))))) ∨ (¬ x4B = true ∧ (mo_cutWord_go p1 n 1 x2N x3N x4B x5L S S')))))))))))))
    | 1 => p1 ≤ x3N ∧ ((x4B = true ∧ ((x3N - p1) < 2147483648 ∧ (((x3N - p1) ≤ 6 ∧ (x2N < 155 ∧ (x2N < 155 ∧ (x2N < 155 ∧ (S' = (w_to (w_word (w_kind S (va_up (r_kind S) x2N (wk x5L))) (va_up (r_word S) x2N x5L)) (va_up (r_to S) x2N x3N))))))) ∨ (¬ (x3N - p1) ≤ 6 ∧ (x2N < 155 ∧ (x2N < 155 ∧ (x2N < 155 ∧ (S' = (w_to (w_word (w_kind S (va_up (r_kind S) x2N 99)) (va_up (r_word S) x2N x5L)) (va_up (r_to S) x2N x3N)))))))))) ∨ (¬ x4B = true ∧ ((x3N - p1) < 2147483648 ∧ (((x3N - p1) ≤ 9 ∧ (x2N < 155 ∧ (x2N < 155 ∧ (x2N < 155 ∧ (S' = (w_to (w_word (w_kind S (va_up (r_kind S) x2N 2)) (va_up (r_word S) x2N x5L)) (va_up (r_to S) x2N x3N))))))) ∨ (¬ (x3N - p1) ≤ 9 ∧ (x2N < 155 ∧ (x2N < 155 ∧ (x2N < 155 ∧ (S' = (w_to (w_word (w_kind S (va_up (r_kind S) x2N 99)) (va_up (r_word S) x2N x5L)) (va_up (r_to S) x2N x3N)))))))))))
    | _ => False
def mo_cutWord (p1 : Nat) (S : MS) (S' : MS) : Prop := p1 < 300 ∧ (((r_text S) p1) < 2147483648 ∧ (∃ n, mo_cutWord_go p1 n 0 (r_tokens S) p1 (isL ((r_text S) p1)) (lN 0) S S'))
set_option maxHeartbeats 4000000 in
set_option maxRecDepth 100000 in
theorem c_Mo_cutWord {l : Launch} {z : Zt} {b : Nat → Nat} {S : MS} {p1 : Nat} {S' : MS} (h : Nat) (hres : mo_cutWord p1 S S') : XC l (Gz z) (h + 1) y_Mo_cutWord b_Mo_cutWord 7 none [.ref (b 0), .int (nI p1)] (mw z b S) (.inl none) (mw z b S') := by
  rw [mo_cutWord] at hres
  refine XC.ofV (by decide +kernel) rfl ?_
  intro p e s m below meth c X hnm
  have go : ∀ n : Nat, (∀ (x2N : Nat) (x3N : Nat) (x4B : Bool) (x5L : Int64) (S : MS), mo_cutWord_go p1 n 0 x2N x3N x4B x5L S S' → V p l e (Rm (h + 1)) s m ([.ref (b 0), .int (nI p1)] : List Value).toArray below meth c (Gz z) 7 0 0 (XE below (Gz z) (.inl none) (mw z b S') ([.ref (b 0), .int (nI p1)] : List Value).toArray s) (mw z b S) 21 [(0, .ref (b 0)), (1, .int (nI p1)), (2, .int (nI x2N)), (3, .int (nI x3N)), (4, .int (bI x4B)), (5, .long x5L)] []) ∧ (∀ (x2N : Nat) (x3N : Nat) (x4B : Bool) (x5L : Int64) (S : MS), mo_cutWord_go p1 n 1 x2N x3N x4B x5L S S' → V p l e (Rm (h + 1)) s m ([.ref (b 0), .int (nI p1)] : List Value).toArray below meth c (Gz z) 7 0 0 (XE below (Gz z) (.inl none) (mw z b S') ([.ref (b 0), .int (nI p1)] : List Value).toArray s) (mw z b S) 113 [(0, .ref (b 0)), (1, .int (nI p1)), (2, .int (nI x2N)), (3, .int (nI x3N)), (4, .int (bI x4B)), (5, .long x5L)] []) := by
    intro n
    induction n with
    | zero =>
      refine ⟨?_, ?_⟩
      · intro x2N x3N x4B x5L S hres
        exact absurd hres (by simp only [mo_cutWord_go, not_false_eq_true])
      · intro x2N x3N x4B x5L S hres
        exact absurd hres (by simp only [mo_cutWord_go, not_false_eq_true])
    | succ n ih =>
      refine ⟨?_, ?_⟩
      · intro x2N x3N x4B x5L S hres
        rw [mo_cutWord_go] at hres
        try dsimp only at hres
        refine V.iload_n X d_Mo_cutWord_21 rfl ?_
        refine V.aload_n X d_Mo_cutWord_22 rfl ?_
        refine g_Mo_length (x := (r_length S)) X rfl k_Mo_139 d_Mo_cutWord_23 ?_
        obtain ⟨g2, hres⟩ := hres
        obtain ⟨g3, hres⟩ := hres
        refine V.cmpN_ge (tgt := 113) X d_Mo_cutWord_26 (by decide) (by omega) (by omega) (fun h26_1 => ?_) (fun h26_1 => ?_)
        · replace hres := or_t hres h26_1
          refine V.lvs (lv' := [(0, .ref (b 0)), (1, .int (nI p1)), (2, .int (nI x2N)), (3, .int (nI x3N)), (4, .int (bI x4B)), (5, .long x5L)]) rfl ?_
          exact ih.2 _ _ _ _ S hres
        · replace hres := or_f hres (Nat.not_le.mpr h26_1)
          refine V.iload_n X d_Mo_cutWord_29 rfl ?_
          refine V.iload_n X d_Mo_cutWord_30 rfl ?_
          refine V.bipush (v := nI 10) X d_Mo_cutWord_31 (by decide +kernel) ?_
          refine V.iadd X d_Mo_cutWord_33 (nI_add _ _) ?_
          obtain ⟨g5, hres⟩ := hres
          refine V.cmpN_ge (tgt := 113) X d_Mo_cutWord_34 (by decide) (by omega) (by omega) (fun h34_4 => ?_) (fun h34_4 => ?_)
          · replace hres := or_t hres h34_4
            refine V.lvs (lv' := [(0, .ref (b 0)), (1, .int (nI p1)), (2, .int (nI x2N)), (3, .int (nI x3N)), (4, .int (bI x4B)), (5, .long x5L)]) rfl ?_
            exact ih.2 _ _ _ _ S hres
          · replace hres := or_f hres (Nat.not_le.mpr h34_4)
            refine V.aload_n X d_Mo_cutWord_37 rfl ?_
            refine g_Mo_text X k_Mo_7 d_Mo_cutWord_38 ?_
            refine V.iload_n X d_Mo_cutWord_41 rfl ?_
            obtain ⟨g6, hres⟩ := hres
            refine l_Mo_text (x := ((r_text S) x3N)) X g6 (congrFun rfl _) d_Mo_cutWord_42 ?_
            obtain ⟨g7, hres⟩ := hres
            refine V.callS1 X (c_Mo_digit (h + 0) (by omega)) Y_Mo_digit k_Mo_169 rfl rfl rfl (Rok.lt (by omega)) d_Mo_cutWord_43 ?_
            refine V.ifB_ne (tgt := 66) X d_Mo_cutWord_46 (by decide) (fun h46_8 => ?_) (fun h46_8 => ?_)
            · replace hres := or_t hres h46_8
              refine V.iload X d_Mo_cutWord_66 rfl ?_
              refine V.ifB_eq (tgt := 87) X d_Mo_cutWord_68 (by decide) (fun h68_9 => ?_) (fun h68_9 => ?_)
              · replace hres := or_f hres (by rw [h68_9]; decide)
                refine V.lload X d_Mo_cutWord_87 rfl ?_
                refine V.ldc2 (v := 10) X d_Mo_cutWord_89 k_Mo_172 ?_
                refine V.lmul X d_Mo_cutWord_92 rfl ?_
                refine V.aload_n X d_Mo_cutWord_93 rfl ?_
                refine g_Mo_text X k_Mo_7 d_Mo_cutWord_94 ?_
                refine V.iload_n X d_Mo_cutWord_97 rfl ?_
                obtain ⟨g10, hres⟩ := hres
                refine l_Mo_text (x := ((r_text S) x3N)) X g10 (congrFun rfl _) d_Mo_cutWord_98 ?_
                refine V.i2l X d_Mo_cutWord_99 rfl ?_
                refine V.ladd X d_Mo_cutWord_100 rfl ?_
                refine V.ldc2 (v := 48) X d_Mo_cutWord_101 k_Mo_174 ?_
                refine V.lsub X d_Mo_cutWord_104 rfl ?_
                refine V.lstore (lv' := [(0, .ref (b 0)), (1, .int (nI p1)), (2, .int (nI x2N)), (3, .int (nI x3N)), (4, .int (bI x4B)), (5, .long (((x5L * (10 : Int64)) + ((nI ((r_text S) x3N)).toInt64)) - (48 : Int64)))]) X d_Mo_cutWord_105 (by decide) rfl ?_
                refine V.iinc (lv' := [(0, .ref (b 0)), (1, .int (nI p1)), (2, .int (nI x2N)), (3, .int (nI (x3N + 1))), (4, .int (bI x4B)), (5, .long (((x5L * (10 : Int64)) + ((nI ((r_text S) x3N)).toInt64)) - (48 : Int64)))]) X d_Mo_cutWord_107 rfl (show _ + nI 1 = _ from nI_add _ 1) (by decide) rfl ?_
                refine V.goto (tgt := 21) X d_Mo_cutWord_110 (by decide) ?_
                refine V.lvs (lv' := [(0, .ref (b 0)), (1, .int (nI p1)), (2, .int (nI x2N)), (3, .int (nI (x3N + 1))), (4, .int (bI x4B)), (5, .long (((x5L * (10 : Int64)) + ((nI ((r_text S) x3N)).toInt64)) - (48 : Int64)))]) rfl ?_
                exact ih.1 _ _ _ _ S hres
              · replace hres := or_t hres h68_9
                refine V.lload X d_Mo_cutWord_71 rfl ?_
                refine V.bipush (v := nI 8) X d_Mo_cutWord_73 (by decide +kernel) ?_
                refine V.lshl X d_Mo_cutWord_75 rfl ?_
                refine V.aload_n X d_Mo_cutWord_76 rfl ?_
                refine g_Mo_text X k_Mo_7 d_Mo_cutWord_77 ?_
                refine V.iload_n X d_Mo_cutWord_80 rfl ?_
                obtain ⟨g11, hres⟩ := hres
                refine l_Mo_text (x := ((r_text S) x3N)) X g11 (congrFun rfl _) d_Mo_cutWord_81 ?_
                refine V.i2l X d_Mo_cutWord_82 rfl ?_
                refine V.lor X d_Mo_cutWord_83 rfl ?_
                refine V.goto (tgt := 105) X d_Mo_cutWord_84 (by decide) ?_
                refine V.lstore (lv' := [(0, .ref (b 0)), (1, .int (nI p1)), (2, .int (nI x2N)), (3, .int (nI x3N)), (4, .int (bI x4B)), (5, .long ((x5L <<< ((nI 8).toInt64 &&& 63)) ||| ((nI ((r_text S) x3N)).toInt64)))]) X d_Mo_cutWord_105 (by decide) rfl ?_
                refine V.iinc (lv' := [(0, .ref (b 0)), (1, .int (nI p1)), (2, .int (nI x2N)), (3, .int (nI (x3N + 1))), (4, .int (bI x4B)), (5, .long ((x5L <<< ((nI 8).toInt64 &&& 63)) ||| ((nI ((r_text S) x3N)).toInt64)))]) X d_Mo_cutWord_107 rfl (show _ + nI 1 = _ from nI_add _ 1) (by decide) rfl ?_
                refine V.goto (tgt := 21) X d_Mo_cutWord_110 (by decide) ?_
                refine V.lvs (lv' := [(0, .ref (b 0)), (1, .int (nI p1)), (2, .int (nI x2N)), (3, .int (nI (x3N + 1))), (4, .int (bI x4B)), (5, .long ((x5L <<< ((nI 8).toInt64 &&& 63)) ||| ((nI ((r_text S) x3N)).toInt64)))]) rfl ?_
                exact ih.1 _ _ _ _ S hres
            · replace hres := or_f hres (by rw [h46_8]; decide)
              refine V.iload X d_Mo_cutWord_49 rfl ?_
              refine V.ifB_eq (tgt := 113) X d_Mo_cutWord_51 (by decide) (fun h51_12 => ?_) (fun h51_12 => ?_)
              · replace hres := or_f hres (by rw [h51_12]; decide)
                refine V.lvs (lv' := [(0, .ref (b 0)), (1, .int (nI p1)), (2, .int (nI x2N)), (3, .int (nI x3N)), (4, .int (bI x4B)), (5, .long x5L)]) rfl ?_
                exact ih.2 _ _ _ _ S hres
              · replace hres := or_t hres h51_12
                refine V.aload_n X d_Mo_cutWord_54 rfl ?_
                refine g_Mo_text X k_Mo_7 d_Mo_cutWord_55 ?_
                refine V.iload_n X d_Mo_cutWord_58 rfl ?_
                obtain ⟨g13, hres⟩ := hres
                refine l_Mo_text (x := ((r_text S) x3N)) X g13 (congrFun rfl _) d_Mo_cutWord_59 ?_
                refine V.callS1 X (c_Mo_letter (h + 0) (by omega)) Y_Mo_letter k_Mo_165 rfl rfl rfl (Rok.lt (by omega)) d_Mo_cutWord_60 ?_
                refine V.ifB_eq (tgt := 113) X d_Mo_cutWord_63 (by decide) (fun h63_14 => ?_) (fun h63_14 => ?_)
                · replace hres := or_f hres (by rw [h63_14]; decide)
                  refine V.lvs (lv' := [(0, .ref (b 0)), (1, .int (nI p1)), (2, .int (nI x2N)), (3, .int (nI x3N)), (4, .int (bI x4B)), (5, .long x5L)]) rfl ?_
                  exact ih.2 _ _ _ _ S hres
                · replace hres := or_t hres h63_14
                  refine V.iload X d_Mo_cutWord_66 rfl ?_
                  refine V.ifB_eq (tgt := 87) X d_Mo_cutWord_68 (by decide) (fun h => absurd (h51_12.symm.trans h) (by decide)) (fun _ => ?_)
                  refine V.lload X d_Mo_cutWord_71 rfl ?_
                  refine V.bipush (v := nI 8) X d_Mo_cutWord_73 (by decide +kernel) ?_
                  refine V.lshl X d_Mo_cutWord_75 rfl ?_
                  refine V.aload_n X d_Mo_cutWord_76 rfl ?_
                  refine g_Mo_text X k_Mo_7 d_Mo_cutWord_77 ?_
                  refine V.iload_n X d_Mo_cutWord_80 rfl ?_
                  obtain ⟨g16, hres⟩ := hres
                  refine l_Mo_text (x := ((r_text S) x3N)) X g16 (congrFun rfl _) d_Mo_cutWord_81 ?_
                  refine V.i2l X d_Mo_cutWord_82 rfl ?_
                  refine V.lor X d_Mo_cutWord_83 rfl ?_
                  refine V.goto (tgt := 105) X d_Mo_cutWord_84 (by decide) ?_
                  refine V.lstore (lv' := [(0, .ref (b 0)), (1, .int (nI p1)), (2, .int (nI x2N)), (3, .int (nI x3N)), (4, .int (bI x4B)), (5, .long ((x5L <<< ((nI 8).toInt64 &&& 63)) ||| ((nI ((r_text S) x3N)).toInt64)))]) X d_Mo_cutWord_105 (by decide) rfl ?_
                  refine V.iinc (lv' := [(0, .ref (b 0)), (1, .int (nI p1)), (2, .int (nI x2N)), (3, .int (nI (x3N + 1))), (4, .int (bI x4B)), (5, .long ((x5L <<< ((nI 8).toInt64 &&& 63)) ||| ((nI ((r_text S) x3N)).toInt64)))]) X d_Mo_cutWord_107 rfl (show _ + nI 1 = _ from nI_add _ 1) (by decide) rfl ?_
                  refine V.goto (tgt := 21) X d_Mo_cutWord_110 (by decide) ?_
                  refine V.lvs (lv' := [(0, .ref (b 0)), (1, .int (nI p1)), (2, .int (nI x2N)), (3, .int (nI (x3N + 1))), (4, .int (bI x4B)), (5, .long ((x5L <<< ((nI 8).toInt64 &&& 63)) ||| ((nI ((r_text S) x3N)).toInt64)))]) rfl ?_
                  exact ih.1 _ _ _ _ S hres
      · intro x2N x3N x4B x5L S hres
        rw [mo_cutWord_go] at hres
        try dsimp only at hres
        refine V.aload_n X d_Mo_cutWord_113 rfl ?_
        refine g_Mo_kind X k_Mo_13 d_Mo_cutWord_114 ?_
        refine V.iload_n X d_Mo_cutWord_117 rfl ?_
        refine V.iload_n X d_Mo_cutWord_118 rfl ?_
        refine V.iload_n X d_Mo_cutWord_119 rfl ?_
        obtain ⟨g17, hres⟩ := hres
        refine V.isub X d_Mo_cutWord_120 (pk_sub g17) ?_
        refine V.iload X d_Mo_cutWord_121 rfl ?_
        refine V.ifB_eq (tgt := 131) X d_Mo_cutWord_123 (by decide) (fun h123_18 => ?_) (fun h123_18 => ?_)
        · replace hres := or_f hres (by rw [h123_18]; decide)
          refine V.bipush (v := nI 9) X d_Mo_cutWord_131 (by decide +kernel) ?_
          obtain ⟨g20, hres⟩ := hres
          refine V.cmpN_le (tgt := 141) X d_Mo_cutWord_133 (by decide) (by omega) (by omega) (fun h133_19 => ?_) (fun h133_19 => ?_)
          · replace hres := or_t hres h133_19
            refine V.iload X d_Mo_cutWord_141 rfl ?_
            refine V.ifB_eq (tgt := 154) X d_Mo_cutWord_143 (by decide) (fun _ => ?_) (fun h => absurd (h123_18.symm.trans h) (by decide))
            refine V.iconst (v := nI 2) X d_Mo_cutWord_154 (by decide +kernel) ?_
            obtain ⟨g22, hres⟩ := hres
            refine s_Mo_kind (g := (r_kind S)) X g22 rfl d_Mo_cutWord_155 ?_
            refine V.aload_n X d_Mo_cutWord_156 rfl ?_
            refine g_Mo_word X k_Mo_16 d_Mo_cutWord_157 ?_
            refine V.iload_n X d_Mo_cutWord_160 rfl ?_
            refine V.lload X d_Mo_cutWord_161 rfl ?_
            obtain ⟨g23, hres⟩ := hres
            refine s_Mo_word (g := (r_word S)) X g23 (rw_word_kind _ _) d_Mo_cutWord_163 ?_
            refine V.aload_n X d_Mo_cutWord_164 rfl ?_
            refine g_Mo_to X k_Mo_23 d_Mo_cutWord_165 ?_
            refine V.iload_n X d_Mo_cutWord_168 rfl ?_
            refine V.iload_n X d_Mo_cutWord_169 rfl ?_
            obtain ⟨g24, hres⟩ := hres
            refine s_Mo_to (g := (r_to S)) X g24 (Eq.trans (rw_to_word _ _) (rw_to_kind _ _)) d_Mo_cutWord_170 ?_
            subst hres
            exact V.vret X d_Mo_cutWord_171 rfl rfl
          · replace hres := or_f hres (Nat.not_le.mpr h133_19)
            refine V.bipush (v := nI 99) X d_Mo_cutWord_136 (by decide +kernel) ?_
            refine V.goto (tgt := 155) X d_Mo_cutWord_138 (by decide) ?_
            obtain ⟨g25, hres⟩ := hres
            refine s_Mo_kind (g := (r_kind S)) X g25 rfl d_Mo_cutWord_155 ?_
            refine V.aload_n X d_Mo_cutWord_156 rfl ?_
            refine g_Mo_word X k_Mo_16 d_Mo_cutWord_157 ?_
            refine V.iload_n X d_Mo_cutWord_160 rfl ?_
            refine V.lload X d_Mo_cutWord_161 rfl ?_
            obtain ⟨g26, hres⟩ := hres
            refine s_Mo_word (g := (r_word S)) X g26 (rw_word_kind _ _) d_Mo_cutWord_163 ?_
            refine V.aload_n X d_Mo_cutWord_164 rfl ?_
            refine g_Mo_to X k_Mo_23 d_Mo_cutWord_165 ?_
            refine V.iload_n X d_Mo_cutWord_168 rfl ?_
            refine V.iload_n X d_Mo_cutWord_169 rfl ?_
            obtain ⟨g27, hres⟩ := hres
            refine s_Mo_to (g := (r_to S)) X g27 (Eq.trans (rw_to_word _ _) (rw_to_kind _ _)) d_Mo_cutWord_170 ?_
            subst hres
            exact V.vret X d_Mo_cutWord_171 rfl rfl
        · replace hres := or_t hres h123_18
          refine V.bipush (v := nI 6) X d_Mo_cutWord_126 (by decide +kernel) ?_
          refine V.goto (tgt := 133) X d_Mo_cutWord_128 (by decide) ?_
          obtain ⟨g29, hres⟩ := hres
          refine V.cmpN_le (tgt := 141) X d_Mo_cutWord_133 (by decide) (by omega) (by omega) (fun h133_28 => ?_) (fun h133_28 => ?_)
          · replace hres := or_t hres h133_28
            refine V.iload X d_Mo_cutWord_141 rfl ?_
            refine V.ifB_eq (tgt := 154) X d_Mo_cutWord_143 (by decide) (fun h => absurd (h123_18.symm.trans h) (by decide)) (fun _ => ?_)
            refine V.lload X d_Mo_cutWord_146 rfl ?_
            refine V.callS1 X (c_Mo_wordKind (h + 0)) Y_Mo_wordKind k_Mo_176 rfl rfl rfl (Rok.lt (by omega)) d_Mo_cutWord_148 ?_
            refine V.goto (tgt := 155) X d_Mo_cutWord_151 (by decide) ?_
            obtain ⟨g31, hres⟩ := hres
            refine s_Mo_kind (g := (r_kind S)) X g31 rfl d_Mo_cutWord_155 ?_
            refine V.aload_n X d_Mo_cutWord_156 rfl ?_
            refine g_Mo_word X k_Mo_16 d_Mo_cutWord_157 ?_
            refine V.iload_n X d_Mo_cutWord_160 rfl ?_
            refine V.lload X d_Mo_cutWord_161 rfl ?_
            obtain ⟨g32, hres⟩ := hres
            refine s_Mo_word (g := (r_word S)) X g32 (rw_word_kind _ _) d_Mo_cutWord_163 ?_
            refine V.aload_n X d_Mo_cutWord_164 rfl ?_
            refine g_Mo_to X k_Mo_23 d_Mo_cutWord_165 ?_
            refine V.iload_n X d_Mo_cutWord_168 rfl ?_
            refine V.iload_n X d_Mo_cutWord_169 rfl ?_
            obtain ⟨g33, hres⟩ := hres
            refine s_Mo_to (g := (r_to S)) X g33 (Eq.trans (rw_to_word _ _) (rw_to_kind _ _)) d_Mo_cutWord_170 ?_
            subst hres
            exact V.vret X d_Mo_cutWord_171 rfl rfl
          · replace hres := or_f hres (Nat.not_le.mpr h133_28)
            refine V.bipush (v := nI 99) X d_Mo_cutWord_136 (by decide +kernel) ?_
            refine V.goto (tgt := 155) X d_Mo_cutWord_138 (by decide) ?_
            obtain ⟨g34, hres⟩ := hres
            refine s_Mo_kind (g := (r_kind S)) X g34 rfl d_Mo_cutWord_155 ?_
            refine V.aload_n X d_Mo_cutWord_156 rfl ?_
            refine g_Mo_word X k_Mo_16 d_Mo_cutWord_157 ?_
            refine V.iload_n X d_Mo_cutWord_160 rfl ?_
            refine V.lload X d_Mo_cutWord_161 rfl ?_
            obtain ⟨g35, hres⟩ := hres
            refine s_Mo_word (g := (r_word S)) X g35 (rw_word_kind _ _) d_Mo_cutWord_163 ?_
            refine V.aload_n X d_Mo_cutWord_164 rfl ?_
            refine g_Mo_to X k_Mo_23 d_Mo_cutWord_165 ?_
            refine V.iload_n X d_Mo_cutWord_168 rfl ?_
            refine V.iload_n X d_Mo_cutWord_169 rfl ?_
            obtain ⟨g36, hres⟩ := hres
            refine s_Mo_to (g := (r_to S)) X g36 (Eq.trans (rw_to_word _ _) (rw_to_kind _ _)) d_Mo_cutWord_170 ?_
            subst hres
            exact V.vret X d_Mo_cutWord_171 rfl rfl
  refine V.lvs (lv' := [(0, .ref (b 0)), (1, .int (nI p1))]) rfl ?_
  refine V.aload_n X d_Mo_cutWord_0 rfl ?_
  refine g_Mo_tokens (x := (r_tokens S)) X rfl k_Mo_162 d_Mo_cutWord_1 ?_
  refine V.istore_n (lv' := [(0, .ref (b 0)), (1, .int (nI p1)), (2, .int (nI (r_tokens S)))]) X d_Mo_cutWord_4 (by decide) rfl ?_
  refine V.iload_n X d_Mo_cutWord_5 rfl ?_
  refine V.istore_n (lv' := [(0, .ref (b 0)), (1, .int (nI p1)), (2, .int (nI (r_tokens S))), (3, .int (nI p1))]) X d_Mo_cutWord_6 (by decide) rfl ?_
  refine V.aload_n X d_Mo_cutWord_7 rfl ?_
  refine g_Mo_text X k_Mo_7 d_Mo_cutWord_8 ?_
  refine V.iload_n X d_Mo_cutWord_11 rfl ?_
  obtain ⟨g37, hres⟩ := hres
  refine l_Mo_text (x := ((r_text S) p1)) X g37 (congrFun rfl _) d_Mo_cutWord_12 ?_
  obtain ⟨g38, hres⟩ := hres
  refine V.callS1 X (c_Mo_letter (h + 0) (by omega)) Y_Mo_letter k_Mo_165 rfl rfl rfl (Rok.lt (by omega)) d_Mo_cutWord_13 ?_
  refine V.istore (lv' := [(0, .ref (b 0)), (1, .int (nI p1)), (2, .int (nI (r_tokens S))), (3, .int (nI p1)), (4, .int (bI (isL ((r_text S) p1))))]) X d_Mo_cutWord_16 (by decide) rfl ?_
  refine V.lconst (v := lN 0) X d_Mo_cutWord_18 (by decide +kernel) ?_
  refine V.lstore (lv' := [(0, .ref (b 0)), (1, .int (nI p1)), (2, .int (nI (r_tokens S))), (3, .int (nI p1)), (4, .int (bI (isL ((r_text S) p1)))), (5, .long (lN 0))]) X d_Mo_cutWord_19 (by decide) rfl ?_
  refine V.lvs (lv' := [(0, .ref (b 0)), (1, .int (nI p1)), (2, .int (nI (r_tokens S))), (3, .int (nI p1)), (4, .int (bI (isL ((r_text S) p1)))), (5, .long (lN 0))]) rfl ?_
  obtain ⟨n, hres⟩ := hres
  exact (go n).1 _ _ _ _ S hres
def mo_cutAll_go : Nat → Nat → Nat → Nat → Nat → MS → MS → Prop
  | 0, _, _, _, _, _, _ => False
  | n + 1, tag, x1N, x2N, x3N, S, S' => match tag with
    | 0 => x1N < 2147483648 ∧ ((r_length S) < 2147483648 ∧ (((r_length S) ≤ x1N ∧ (mo_cutAll_go n 5 0 (r_tokens S) 0 S S')) ∨ (¬ (r_length S) ≤ x1N ∧ ((r_tokens S) < 2147483648 ∧ ((151 ≤ (r_tokens S) ∧ (mo_cutAll_go n 5 0 (r_tokens S) 0 S S')) ∨ (¬ 151 ≤ (r_tokens S) ∧ (x1N < 300 ∧ (((r_text S) x1N) < 2147483648 ∧ ((((r_text S) x1N) = 32 ∧ (mo_cutAll_go n 0 (x1N + 1) 0 0 S S')) ∨ (¬ ((r_text S) x1N) = 32 ∧ ((r_tokens S) < 155 ∧ ((r_tokens S) < 155 ∧ (((isS ((r_text S) x1N)) = true ∧ ((r_tokens S) < 155 ∧ (mo_cutAll_go n 1 x1N ((r_text S) x1N) (r_tokens S) (w_kind (w_to (w_from S (va_up (r_from S) (r_tokens S) x1N)) (va_up (r_to S) (r_tokens S) (x1N + 1))) (va_up (r_kind S) (r_tokens S) ((r_text S) x1N))) S'))) ∨ (¬ (isS ((r_text S) x1N)) = true ∧ ((r_tokens S) < 155 ∧ (mo_cutAll_go n 1 x1N ((r_text S) x1N) (r_tokens S) (w_kind (w_to (w_from S (va_up (r_from S) (r_tokens S) x1N)) (va_up (r_to S) (r_tokens S) (x1N + 1))) (va_up (r_kind S) (r_tokens S) 99)) S'))))))))))))))))
    | 1 => x2N < 2147483648 ∧ (((isL x2N) = true ∧ (∃ S16, mo_cutWord x1N S S16 ∧ (mo_cutAll_go n 2 x1N x2N x3N S16 S'))) ∨ (¬ (isL x2N) = true ∧ (((isD x2N) = true ∧ (∃ S18, mo_cutWord x1N S S18 ∧ (mo_cutAll_go n 2 x1N x2N x3N S18 S'))) ∨ (¬ (isD x2N) = true ∧ (mo_cutAll_go n 2 x1N x2N x3N S S')))))
    | 2 => x2N < 2147483648 ∧ ((x2N = 58 ∧ ((x1N + 1) < 2147483648 ∧ ((r_length S) < 2147483648 ∧ (((r_length S) ≤ (x1N + 1) ∧ (mo_cutAll_go n 3 x1N x2N x3N S S')) ∨ (¬ (r_length S) ≤ (x1N + 1) ∧ ((x1N + 1) < 300 ∧ (((r_text S) (x1N + 1)) < 2147483648 ∧ ((((r_text S) (x1N + 1)) = 61 ∧ (x3N < 155 ∧ (x3N < 155 ∧ (mo_cutAll_go n 3 x1N x2N x3N (w_to (w_kind S (va_up (r_kind S) x3N 13)) (va_up (r_to S) x3N (x1N + 2))) S')))) ∨ (¬ ((r_text S) (x1N + 1)) = 61 ∧ (mo_cutAll_go n 3 x1N x2N x3N S S')))))))))) ∨ (¬ x2N = 58 ∧ (mo_cutAll_go n 3 x1N x2N x3N S S')))
    | 3 => x3N < 2147483648 ∧ ((x3N = 150 ∧ (x3N < 155 ∧ (mo_cutAll_go n 4 x1N x2N x3N (w_kind S (va_up (r_kind S) x3N 99)) S'))) ∨ (¬ x3N = 150 ∧ (mo_cutAll_go n 4 x1N x2N x3N S S')))
    | 4 => x3N < 155 ∧ (((r_kind S) x3N) < 2147483648 ∧ ((((r_kind S) x3N) = 99 ∧ (mo_cutAll_go n 0 (r_length S) 0 0 (w_tokens S ((r_tokens S) + 1)) S')) ∨ (¬ ((r_kind S) x3N) = 99 ∧ (x3N < 155 ∧ (mo_cutAll_go n 0 ((r_to S) x3N) 0 0 (w_tokens S ((r_tokens S) + 1)) S')))))
    | 5 => x2N < 2147483648 ∧ ((155 ≤ x2N ∧ (S' = S)) ∨ (¬ 155 ≤ x2N ∧ (x2N < 155 ∧ (mo_cutAll_go n 5 0 (x2N + 1) 0 (w_kind S (va_up (r_kind S) x2N 0)) S'))))
    | _ => False
def mo_cutAll (S : MS) (S' : MS) : Prop := ∃ n, mo_cutAll_go n 0 0 0 0 (w_tokens S 0) S'
set_option maxHeartbeats 4000000 in
set_option maxRecDepth 100000 in
theorem c_Mo_cutAll {l : Launch} {z : Zt} {b : Nat → Nat} {S : MS} {S' : MS} (h : Nat) (hres : mo_cutAll S S') : XC l (Gz z) (h + 2) y_Mo_cutAll b_Mo_cutAll 4 none [.ref (b 0)] (mw z b S) (.inl none) (mw z b S') := by
  rw [mo_cutAll] at hres
  refine XC.ofV (by decide +kernel) rfl ?_
  intro p e s m below meth c X hnm
  have go : ∀ n : Nat, (∀ (x1N : Nat) (S : MS), mo_cutAll_go n 0 x1N 0 0 S S' → V p l e (Rm (h + 2)) s m ([.ref (b 0)] : List Value).toArray below meth c (Gz z) 4 0 0 (XE below (Gz z) (.inl none) (mw z b S') ([.ref (b 0)] : List Value).toArray s) (mw z b S) 7 [(0, .ref (b 0)), (1, .int (nI x1N))] []) ∧ (∀ (x1N : Nat) (x2N : Nat) (x3N : Nat) (S : MS), mo_cutAll_go n 1 x1N x2N x3N S S' → V p l e (Rm (h + 2)) s m ([.ref (b 0)] : List Value).toArray below meth c (Gz z) 4 0 0 (XE below (Gz z) (.inl none) (mw z b S') ([.ref (b 0)] : List Value).toArray s) (mw z b S) 84 [(0, .ref (b 0)), (1, .int (nI x1N)), (2, .int (nI x2N)), (3, .int (nI x3N))] []) ∧ (∀ (x1N : Nat) (x2N : Nat) (x3N : Nat) (S : MS), mo_cutAll_go n 2 x1N x2N x3N S S' → V p l e (Rm (h + 2)) s m ([.ref (b 0)] : List Value).toArray below meth c (Gz z) 4 0 0 (XE below (Gz z) (.inl none) (mw z b S') ([.ref (b 0)] : List Value).toArray s) (mw z b S) 103 [(0, .ref (b 0)), (1, .int (nI x1N)), (2, .int (nI x2N)), (3, .int (nI x3N))] []) ∧ (∀ (x1N : Nat) (x2N : Nat) (x3N : Nat) (S : MS), mo_cutAll_go n 3 x1N x2N x3N S S' → V p l e (Rm (h + 2)) s m ([.ref (b 0)] : List Value).toArray below meth c (Gz z) 4 0 0 (XE below (Gz z) (.inl none) (mw z b S') ([.ref (b 0)] : List Value).toArray s) (mw z b S) 149 [(0, .ref (b 0)), (1, .int (nI x1N)), (2, .int (nI x2N)), (3, .int (nI x3N))] []) ∧ (∀ (x1N : Nat) (x2N : Nat) (x3N : Nat) (S : MS), mo_cutAll_go n 4 x1N x2N x3N S S' → V p l e (Rm (h + 2)) s m ([.ref (b 0)] : List Value).toArray below meth c (Gz z) 4 0 0 (XE below (Gz z) (.inl none) (mw z b S') ([.ref (b 0)] : List Value).toArray s) (mw z b S) 164 [(0, .ref (b 0)), (1, .int (nI x1N)), (2, .int (nI x2N)), (3, .int (nI x3N))] []) ∧ (∀ (x2N : Nat) (S : MS), mo_cutAll_go n 5 0 x2N 0 S S' → V p l e (Rm (h + 2)) s m ([.ref (b 0)] : List Value).toArray below meth c (Gz z) 4 0 0 (XE below (Gz z) (.inl none) (mw z b S') ([.ref (b 0)] : List Value).toArray s) (mw z b S) 207 [(0, .ref (b 0)), (2, .int (nI x2N))] []) := by
    intro n
    induction n with
    | zero =>
      refine ⟨?_, ?_, ?_, ?_, ?_, ?_⟩
      · intro x1N S hres
        exact absurd hres (by simp only [mo_cutAll_go, not_false_eq_true])
      · intro x1N x2N x3N S hres
        exact absurd hres (by simp only [mo_cutAll_go, not_false_eq_true])
      · intro x1N x2N x3N S hres
        exact absurd hres (by simp only [mo_cutAll_go, not_false_eq_true])
      · intro x1N x2N x3N S hres
        exact absurd hres (by simp only [mo_cutAll_go, not_false_eq_true])
      · intro x1N x2N x3N S hres
        exact absurd hres (by simp only [mo_cutAll_go, not_false_eq_true])
      · intro x2N S hres
        exact absurd hres (by simp only [mo_cutAll_go, not_false_eq_true])
    | succ n ih =>
      refine ⟨?_, ?_, ?_, ?_, ?_, ?_⟩
      · intro x1N S hres
        rw [mo_cutAll_go] at hres
        try dsimp only at hres
        refine V.iload_n X d_Mo_cutAll_7 rfl ?_
        refine V.aload_n X d_Mo_cutAll_8 rfl ?_
        refine g_Mo_length (x := (r_length S)) X rfl k_Mo_139 d_Mo_cutAll_9 ?_
        obtain ⟨g2, hres⟩ := hres
        obtain ⟨g3, hres⟩ := hres
        refine V.cmpN_ge (tgt := 202) X d_Mo_cutAll_12 (by decide) (by omega) (by omega) (fun h12_1 => ?_) (fun h12_1 => ?_)
        · replace hres := or_t hres h12_1
          refine V.aload_n X d_Mo_cutAll_202 rfl ?_
          refine g_Mo_tokens (x := (r_tokens S)) X rfl k_Mo_162 d_Mo_cutAll_203 ?_
          refine V.istore_n (lv' := [(0, .ref (b 0)), (1, .int (nI x1N)), (2, .int (nI (r_tokens S)))]) X d_Mo_cutAll_206 (by decide) rfl ?_
          refine V.pick [0, 2] rfl ?_
          refine V.lvs (lv' := [(0, .ref (b 0)), (2, .int (nI (r_tokens S)))]) rfl ?_
          exact ih.2.2.2.2.2 _ S hres
        · replace hres := or_f hres (Nat.not_le.mpr h12_1)
          refine V.aload_n X d_Mo_cutAll_15 rfl ?_
          refine g_Mo_tokens (x := (r_tokens S)) X rfl k_Mo_162 d_Mo_cutAll_16 ?_
          refine V.sipush (v := nI 151) X d_Mo_cutAll_19 (by decide +kernel) ?_
          obtain ⟨g5, hres⟩ := hres
          refine V.cmpN_ge (tgt := 202) X d_Mo_cutAll_22 (by decide) (by omega) (by omega) (fun h22_4 => ?_) (fun h22_4 => ?_)
          · replace hres := or_t hres h22_4
            refine V.aload_n X d_Mo_cutAll_202 rfl ?_
            refine g_Mo_tokens (x := (r_tokens S)) X rfl k_Mo_162 d_Mo_cutAll_203 ?_
            refine V.istore_n (lv' := [(0, .ref (b 0)), (1, .int (nI x1N)), (2, .int (nI (r_tokens S)))]) X d_Mo_cutAll_206 (by decide) rfl ?_
            refine V.pick [0, 2] rfl ?_
            refine V.lvs (lv' := [(0, .ref (b 0)), (2, .int (nI (r_tokens S)))]) rfl ?_
            exact ih.2.2.2.2.2 _ S hres
          · replace hres := or_f hres (Nat.not_le.mpr h22_4)
            refine V.aload_n X d_Mo_cutAll_25 rfl ?_
            refine g_Mo_text X k_Mo_7 d_Mo_cutAll_26 ?_
            refine V.iload_n X d_Mo_cutAll_29 rfl ?_
            obtain ⟨g6, hres⟩ := hres
            refine l_Mo_text (x := ((r_text S) x1N)) X g6 (congrFun rfl _) d_Mo_cutAll_30 ?_
            refine V.istore_n (lv' := [(0, .ref (b 0)), (1, .int (nI x1N)), (2, .int (nI ((r_text S) x1N)))]) X d_Mo_cutAll_31 (by decide) rfl ?_
            refine V.iload_n X d_Mo_cutAll_32 rfl ?_
            refine V.bipush (v := nI 32) X d_Mo_cutAll_33 (by decide +kernel) ?_
            obtain ⟨g8, hres⟩ := hres
            refine V.cmpN_ne (tgt := 44) X d_Mo_cutAll_35 (by decide) (by omega) (by omega) (fun h35_7 => ?_) (fun h35_7 => ?_)
            · replace hres := or_f hres h35_7
              refine V.aload_n X d_Mo_cutAll_44 rfl ?_
              refine g_Mo_tokens (x := (r_tokens S)) X rfl k_Mo_162 d_Mo_cutAll_45 ?_
              refine V.istore_n (lv' := [(0, .ref (b 0)), (1, .int (nI x1N)), (2, .int (nI ((r_text S) x1N))), (3, .int (nI (r_tokens S)))]) X d_Mo_cutAll_48 (by decide) rfl ?_
              refine V.aload_n X d_Mo_cutAll_49 rfl ?_
              refine g_Mo_from X k_Mo_20 d_Mo_cutAll_50 ?_
              refine V.iload_n X d_Mo_cutAll_53 rfl ?_
              refine V.iload_n X d_Mo_cutAll_54 rfl ?_
              obtain ⟨g9, hres⟩ := hres
              refine s_Mo_from (g := (r_from S)) X g9 rfl d_Mo_cutAll_55 ?_
              refine V.aload_n X d_Mo_cutAll_56 rfl ?_
              refine g_Mo_to X k_Mo_23 d_Mo_cutAll_57 ?_
              refine V.iload_n X d_Mo_cutAll_60 rfl ?_
              refine V.iload_n X d_Mo_cutAll_61 rfl ?_
              refine V.iconst (v := nI 1) X d_Mo_cutAll_62 (by decide +kernel) ?_
              refine V.iadd X d_Mo_cutAll_63 (nI_add _ _) ?_
              obtain ⟨g10, hres⟩ := hres
              refine s_Mo_to (g := (r_to S)) X g10 (rw_to_from _ _) d_Mo_cutAll_64 ?_
              refine V.aload_n X d_Mo_cutAll_65 rfl ?_
              refine g_Mo_kind X k_Mo_13 d_Mo_cutAll_66 ?_
              refine V.iload_n X d_Mo_cutAll_69 rfl ?_
              refine V.iload_n X d_Mo_cutAll_70 rfl ?_
              refine V.callS1 X (c_Mo_sign (h + 1) (by omega)) Y_Mo_sign k_Mo_180 rfl rfl rfl (Rok.lt (by omega)) d_Mo_cutAll_71 ?_
              refine V.ifB_eq (tgt := 81) X d_Mo_cutAll_74 (by decide) (fun h74_11 => ?_) (fun h74_11 => ?_)
              · replace hres := or_f hres (by rw [h74_11]; decide)
                refine V.bipush (v := nI 99) X d_Mo_cutAll_81 (by decide +kernel) ?_
                obtain ⟨g12, hres⟩ := hres
                refine s_Mo_kind (g := (r_kind S)) X g12 (Eq.trans (rw_kind_to _ _) (rw_kind_from _ _)) d_Mo_cutAll_83 ?_
                refine V.lvs (lv' := [(0, .ref (b 0)), (1, .int (nI x1N)), (2, .int (nI ((r_text S) x1N))), (3, .int (nI (r_tokens S)))]) rfl ?_
                exact ih.2.1 _ _ _ (w_kind (w_to (w_from S (va_up (r_from S) (r_tokens S) x1N)) (va_up (r_to S) (r_tokens S) (x1N + 1))) (va_up (r_kind S) (r_tokens S) 99)) hres
              · replace hres := or_t hres h74_11
                refine V.iload_n X d_Mo_cutAll_77 rfl ?_
                refine V.goto (tgt := 83) X d_Mo_cutAll_78 (by decide) ?_
                obtain ⟨g13, hres⟩ := hres
                refine s_Mo_kind (g := (r_kind S)) X g13 (Eq.trans (rw_kind_to _ _) (rw_kind_from _ _)) d_Mo_cutAll_83 ?_
                refine V.lvs (lv' := [(0, .ref (b 0)), (1, .int (nI x1N)), (2, .int (nI ((r_text S) x1N))), (3, .int (nI (r_tokens S)))]) rfl ?_
                exact ih.2.1 _ _ _ (w_kind (w_to (w_from S (va_up (r_from S) (r_tokens S) x1N)) (va_up (r_to S) (r_tokens S) (x1N + 1))) (va_up (r_kind S) (r_tokens S) ((r_text S) x1N))) hres
            · replace hres := or_t hres h35_7
              refine V.iinc (lv' := [(0, .ref (b 0)), (1, .int (nI (x1N + 1))), (2, .int (nI ((r_text S) x1N)))]) X d_Mo_cutAll_38 rfl (show _ + nI 1 = _ from nI_add _ 1) (by decide) rfl ?_
              refine V.goto (tgt := 7) X d_Mo_cutAll_41 (by decide) ?_
              refine V.pick [0, 1] rfl ?_
              refine V.lvs (lv' := [(0, .ref (b 0)), (1, .int (nI (x1N + 1)))]) rfl ?_
              exact ih.1 _ S hres
      · intro x1N x2N x3N S hres
        rw [mo_cutAll_go] at hres
        try dsimp only at hres
        refine V.iload_n X d_Mo_cutAll_84 rfl ?_
        obtain ⟨g14, hres⟩ := hres
        refine V.callS1 X (c_Mo_letter (h + 1) (by omega)) Y_Mo_letter k_Mo_165 rfl rfl rfl (Rok.lt (by omega)) d_Mo_cutAll_85 ?_
        refine V.ifB_ne (tgt := 98) X d_Mo_cutAll_88 (by decide) (fun h88_15 => ?_) (fun h88_15 => ?_)
        · replace hres := or_t hres h88_15
          refine V.aload_n X d_Mo_cutAll_98 rfl ?_
          refine V.iload_n X d_Mo_cutAll_99 rfl ?_
          obtain ⟨S16, x16, hres⟩ := hres
          refine V.callV0 X (c_Mo_cutWord (h + 0) x16) Y_Mo_cutWord k_Mo_183 0 rfl rfl rfl rfl rfl (Rok.lt (by omega)) d_Mo_cutAll_100 ?_
          refine V.lvs (lv' := [(0, .ref (b 0)), (1, .int (nI x1N)), (2, .int (nI x2N)), (3, .int (nI x3N))]) rfl ?_
          exact ih.2.2.1 _ _ _ S16 hres
        · replace hres := or_f hres (by rw [h88_15]; decide)
          refine V.iload_n X d_Mo_cutAll_91 rfl ?_
          refine V.callS1 X (c_Mo_digit (h + 1) (by omega)) Y_Mo_digit k_Mo_169 rfl rfl rfl (Rok.lt (by omega)) d_Mo_cutAll_92 ?_
          refine V.ifB_eq (tgt := 103) X d_Mo_cutAll_95 (by decide) (fun h95_17 => ?_) (fun h95_17 => ?_)
          · replace hres := or_f hres (by rw [h95_17]; decide)
            refine V.lvs (lv' := [(0, .ref (b 0)), (1, .int (nI x1N)), (2, .int (nI x2N)), (3, .int (nI x3N))]) rfl ?_
            exact ih.2.2.1 _ _ _ S hres
          · replace hres := or_t hres h95_17
            refine V.aload_n X d_Mo_cutAll_98 rfl ?_
            refine V.iload_n X d_Mo_cutAll_99 rfl ?_
            obtain ⟨S18, x18, hres⟩ := hres
            refine V.callV0 X (c_Mo_cutWord (h + 0) x18) Y_Mo_cutWord k_Mo_183 0 rfl rfl rfl rfl rfl (Rok.lt (by omega)) d_Mo_cutAll_100 ?_
            refine V.lvs (lv' := [(0, .ref (b 0)), (1, .int (nI x1N)), (2, .int (nI x2N)), (3, .int (nI x3N))]) rfl ?_
            exact ih.2.2.1 _ _ _ S18 hres
      · intro x1N x2N x3N S hres
        rw [mo_cutAll_go] at hres
        try dsimp only at hres
        refine V.iload_n X d_Mo_cutAll_103 rfl ?_
        refine V.bipush (v := nI 58) X d_Mo_cutAll_104 (by decide +kernel) ?_
        obtain ⟨g20, hres⟩ := hres
        refine V.cmpN_ne (tgt := 149) X d_Mo_cutAll_106 (by decide) (by omega) (by omega) (fun h106_19 => ?_) (fun h106_19 => ?_)
        · replace hres := or_f hres h106_19
          refine V.lvs (lv' := [(0, .ref (b 0)), (1, .int (nI x1N)), (2, .int (nI x2N)), (3, .int (nI x3N))]) rfl ?_
          exact ih.2.2.2.1 _ _ _ S hres
        · replace hres := or_t hres h106_19
          refine V.iload_n X d_Mo_cutAll_109 rfl ?_
          refine V.iconst (v := nI 1) X d_Mo_cutAll_110 (by decide +kernel) ?_
          refine V.iadd X d_Mo_cutAll_111 (nI_add _ _) ?_
          refine V.aload_n X d_Mo_cutAll_112 rfl ?_
          refine g_Mo_length (x := (r_length S)) X rfl k_Mo_139 d_Mo_cutAll_113 ?_
          obtain ⟨g22, hres⟩ := hres
          obtain ⟨g23, hres⟩ := hres
          refine V.cmpN_ge (tgt := 149) X d_Mo_cutAll_116 (by decide) (by omega) (by omega) (fun h116_21 => ?_) (fun h116_21 => ?_)
          · replace hres := or_t hres h116_21
            refine V.lvs (lv' := [(0, .ref (b 0)), (1, .int (nI x1N)), (2, .int (nI x2N)), (3, .int (nI x3N))]) rfl ?_
            exact ih.2.2.2.1 _ _ _ S hres
          · replace hres := or_f hres (Nat.not_le.mpr h116_21)
            refine V.aload_n X d_Mo_cutAll_119 rfl ?_
            refine g_Mo_text X k_Mo_7 d_Mo_cutAll_120 ?_
            refine V.iload_n X d_Mo_cutAll_123 rfl ?_
            refine V.iconst (v := nI 1) X d_Mo_cutAll_124 (by decide +kernel) ?_
            refine V.iadd X d_Mo_cutAll_125 (nI_add _ _) ?_
            obtain ⟨g24, hres⟩ := hres
            refine l_Mo_text (x := ((r_text S) (x1N + 1))) X g24 (congrFun rfl _) d_Mo_cutAll_126 ?_
            refine V.bipush (v := nI 61) X d_Mo_cutAll_127 (by decide +kernel) ?_
            obtain ⟨g26, hres⟩ := hres
            refine V.cmpN_ne (tgt := 149) X d_Mo_cutAll_129 (by decide) (by omega) (by omega) (fun h129_25 => ?_) (fun h129_25 => ?_)
            · replace hres := or_f hres h129_25
              refine V.lvs (lv' := [(0, .ref (b 0)), (1, .int (nI x1N)), (2, .int (nI x2N)), (3, .int (nI x3N))]) rfl ?_
              exact ih.2.2.2.1 _ _ _ S hres
            · replace hres := or_t hres h129_25
              refine V.aload_n X d_Mo_cutAll_132 rfl ?_
              refine g_Mo_kind X k_Mo_13 d_Mo_cutAll_133 ?_
              refine V.iload_n X d_Mo_cutAll_136 rfl ?_
              refine V.bipush (v := nI 13) X d_Mo_cutAll_137 (by decide +kernel) ?_
              obtain ⟨g27, hres⟩ := hres
              refine s_Mo_kind (g := (r_kind S)) X g27 rfl d_Mo_cutAll_139 ?_
              refine V.aload_n X d_Mo_cutAll_140 rfl ?_
              refine g_Mo_to X k_Mo_23 d_Mo_cutAll_141 ?_
              refine V.iload_n X d_Mo_cutAll_144 rfl ?_
              refine V.iload_n X d_Mo_cutAll_145 rfl ?_
              refine V.iconst (v := nI 2) X d_Mo_cutAll_146 (by decide +kernel) ?_
              refine V.iadd X d_Mo_cutAll_147 (nI_add _ _) ?_
              obtain ⟨g28, hres⟩ := hres
              refine s_Mo_to (g := (r_to S)) X g28 (rw_to_kind _ _) d_Mo_cutAll_148 ?_
              refine V.lvs (lv' := [(0, .ref (b 0)), (1, .int (nI x1N)), (2, .int (nI x2N)), (3, .int (nI x3N))]) rfl ?_
              exact ih.2.2.2.1 _ _ _ (w_to (w_kind S (va_up (r_kind S) x3N 13)) (va_up (r_to S) x3N (x1N + 2))) hres
      · intro x1N x2N x3N S hres
        rw [mo_cutAll_go] at hres
        try dsimp only at hres
        refine V.iload_n X d_Mo_cutAll_149 rfl ?_
        refine V.sipush (v := nI 150) X d_Mo_cutAll_150 (by decide +kernel) ?_
        obtain ⟨g30, hres⟩ := hres
        refine V.cmpN_ne (tgt := 164) X d_Mo_cutAll_153 (by decide) (by omega) (by omega) (fun h153_29 => ?_) (fun h153_29 => ?_)
        · replace hres := or_f hres h153_29
          refine V.lvs (lv' := [(0, .ref (b 0)), (1, .int (nI x1N)), (2, .int (nI x2N)), (3, .int (nI x3N))]) rfl ?_
          exact ih.2.2.2.2.1 _ _ _ S hres
        · replace hres := or_t hres h153_29
          refine V.aload_n X d_Mo_cutAll_156 rfl ?_
          refine g_Mo_kind X k_Mo_13 d_Mo_cutAll_157 ?_
          refine V.iload_n X d_Mo_cutAll_160 rfl ?_
          refine V.bipush (v := nI 99) X d_Mo_cutAll_161 (by decide +kernel) ?_
          obtain ⟨g31, hres⟩ := hres
          refine s_Mo_kind (g := (r_kind S)) X g31 rfl d_Mo_cutAll_163 ?_
          refine V.lvs (lv' := [(0, .ref (b 0)), (1, .int (nI x1N)), (2, .int (nI x2N)), (3, .int (nI x3N))]) rfl ?_
          exact ih.2.2.2.2.1 _ _ _ (w_kind S (va_up (r_kind S) x3N 99)) hres
      · intro x1N x2N x3N S hres
        rw [mo_cutAll_go] at hres
        try dsimp only at hres
        refine V.aload_n X d_Mo_cutAll_164 rfl ?_
        refine V.dup X d_Mo_cutAll_165 rfl ?_
        refine g_Mo_tokens (x := (r_tokens S)) X rfl k_Mo_162 d_Mo_cutAll_166 ?_
        refine V.iconst (v := nI 1) X d_Mo_cutAll_169 (by decide +kernel) ?_
        refine V.iadd X d_Mo_cutAll_170 (nI_add _ _) ?_
        refine p_Mo_tokens X k_Mo_162 d_Mo_cutAll_171 ?_
        refine V.aload_n X d_Mo_cutAll_174 rfl ?_
        refine g_Mo_kind X k_Mo_13 d_Mo_cutAll_175 ?_
        refine V.iload_n X d_Mo_cutAll_178 rfl ?_
        obtain ⟨g32, hres⟩ := hres
        refine l_Mo_kind (x := ((r_kind S) x3N)) X g32 (congrFun (rw_kind_tokens _ _) _) d_Mo_cutAll_179 ?_
        refine V.bipush (v := nI 99) X d_Mo_cutAll_180 (by decide +kernel) ?_
        obtain ⟨g34, hres⟩ := hres
        refine V.cmpN_ne (tgt := 192) X d_Mo_cutAll_182 (by decide) (by omega) (by omega) (fun h182_33 => ?_) (fun h182_33 => ?_)
        · replace hres := or_f hres h182_33
          refine V.aload_n X d_Mo_cutAll_192 rfl ?_
          refine g_Mo_to X k_Mo_23 d_Mo_cutAll_193 ?_
          refine V.iload_n X d_Mo_cutAll_196 rfl ?_
          obtain ⟨g35, hres⟩ := hres
          refine l_Mo_to (x := ((r_to S) x3N)) X g35 (congrFun (rw_to_tokens _ _) _) d_Mo_cutAll_197 ?_
          refine V.istore_n (lv' := [(0, .ref (b 0)), (1, .int (nI ((r_to S) x3N))), (2, .int (nI x2N)), (3, .int (nI x3N))]) X d_Mo_cutAll_198 (by decide) rfl ?_
          refine V.goto (tgt := 7) X d_Mo_cutAll_199 (by decide) ?_
          refine V.pick [0, 1] rfl ?_
          refine V.lvs (lv' := [(0, .ref (b 0)), (1, .int (nI ((r_to S) x3N)))]) rfl ?_
          exact ih.1 _ (w_tokens S ((r_tokens S) + 1)) hres
        · replace hres := or_t hres h182_33
          refine V.aload_n X d_Mo_cutAll_185 rfl ?_
          refine g_Mo_length (x := (r_length S)) X (rw_length_tokens _ _) k_Mo_139 d_Mo_cutAll_186 ?_
          refine V.goto (tgt := 198) X d_Mo_cutAll_189 (by decide) ?_
          refine V.istore_n (lv' := [(0, .ref (b 0)), (1, .int (nI (r_length S))), (2, .int (nI x2N)), (3, .int (nI x3N))]) X d_Mo_cutAll_198 (by decide) rfl ?_
          refine V.goto (tgt := 7) X d_Mo_cutAll_199 (by decide) ?_
          refine V.pick [0, 1] rfl ?_
          refine V.lvs (lv' := [(0, .ref (b 0)), (1, .int (nI (r_length S)))]) rfl ?_
          exact ih.1 _ (w_tokens S ((r_tokens S) + 1)) hres
      · intro x2N S hres
        rw [mo_cutAll_go] at hres
        try dsimp only at hres
        refine V.iload_n X d_Mo_cutAll_207 rfl ?_
        refine V.sipush (v := nI 155) X d_Mo_cutAll_208 (by decide +kernel) ?_
        obtain ⟨g37, hres⟩ := hres
        refine V.cmpN_ge (tgt := 227) X d_Mo_cutAll_211 (by decide) (by omega) (by omega) (fun h211_36 => ?_) (fun h211_36 => ?_)
        · replace hres := or_t hres h211_36
          subst hres
          exact V.vret X d_Mo_cutAll_227 rfl rfl
        · replace hres := or_f hres (Nat.not_le.mpr h211_36)
          refine V.aload_n X d_Mo_cutAll_214 rfl ?_
          refine g_Mo_kind X k_Mo_13 d_Mo_cutAll_215 ?_
          refine V.iload_n X d_Mo_cutAll_218 rfl ?_
          refine V.iconst (v := nI 0) X d_Mo_cutAll_219 (by decide +kernel) ?_
          obtain ⟨g38, hres⟩ := hres
          refine s_Mo_kind (g := (r_kind S)) X g38 rfl d_Mo_cutAll_220 ?_
          refine V.iinc (lv' := [(0, .ref (b 0)), (2, .int (nI (x2N + 1)))]) X d_Mo_cutAll_221 rfl (show _ + nI 1 = _ from nI_add _ 1) (by decide) rfl ?_
          refine V.goto (tgt := 207) X d_Mo_cutAll_224 (by decide) ?_
          refine V.lvs (lv' := [(0, .ref (b 0)), (2, .int (nI (x2N + 1)))]) rfl ?_
          exact ih.2.2.2.2.2 _ (w_kind S (va_up (r_kind S) x2N 0)) hres
  refine V.lvs (lv' := [(0, .ref (b 0))]) rfl ?_
  refine V.aload_n X d_Mo_cutAll_0 rfl ?_
  refine V.iconst (v := nI 0) X d_Mo_cutAll_1 (by decide +kernel) ?_
  refine p_Mo_tokens X k_Mo_162 d_Mo_cutAll_2 ?_
  refine V.iconst (v := nI 0) X d_Mo_cutAll_5 (by decide +kernel) ?_
  refine V.istore_n (lv' := [(0, .ref (b 0)), (1, .int (nI 0))]) X d_Mo_cutAll_6 (by decide) rfl ?_
  refine V.lvs (lv' := [(0, .ref (b 0)), (1, .int (nI 0))]) rfl ?_
  obtain ⟨n, hres⟩ := hres
  exact (go n).1 _ (w_tokens S 0) hres
def mo_compile_go : Nat → Nat → Nat → MS → Nat → MS → Prop
  | 0, _, _, _, _, _ => False
  | n + 1, tag, x1N, S, v, S' => match tag with
    | 0 => x1N < 2147483648 ∧ ((155 ≤ x1N ∧ (mo_compile_go n 1 0 S v S')) ∨ (¬ 155 ≤ x1N ∧ (x1N < 155 ∧ (x1N < 155 ∧ (x1N < 155 ∧ (x1N < 155 ∧ (x1N < 155 ∧ (x1N < 155 ∧ (x1N < 155 ∧ (x1N < 155 ∧ (mo_compile_go n 0 (x1N + 1) (w_pNext (w_pMeans (w_pWord (w_pKind S (va_up (r_pKind S) x1N ((r_kind S) x1N))) (upd (r_pWord S) x1N (((r_word S) x1N).toInt32))) (va_up (r_pMeans S) x1N ((r_means S) x1N))) (va_up (r_pNext S) x1N ((r_next S) x1N))) v S')))))))))))
    | 1 => x1N < 2147483648 ∧ ((18 ≤ x1N ∧ (mo_compile_go n 2 0 S v S')) ∨ (¬ 18 ≤ x1N ∧ (x1N < 18 ∧ (x1N < 18 ∧ (x1N < 18 ∧ (x1N < 18 ∧ (x1N < 18 ∧ (x1N < 18 ∧ (x1N < 18 ∧ (x1N < 18 ∧ (mo_compile_go n 1 (x1N + 1) (w_pWants (w_pOwn (w_pHome (w_pSort S (va_up (r_pSort S) x1N ((r_sort S) x1N))) (va_up (r_pHome S) x1N ((r_home S) x1N))) (va_up (r_pOwn S) x1N ((r_own S) x1N))) (va_up (r_pWants S) x1N ((r_wants S) x1N))) v S')))))))))))
    | 2 => x1N < 2147483648 ∧ ((8 ≤ x1N ∧ (v = (r_symbols S) ∧ S' = S)) ∨ (¬ 8 ≤ x1N ∧ (x1N < 8 ∧ (x1N < 8 ∧ (mo_compile_go n 2 (x1N + 1) (w_pBody S (va_up (r_pBody S) x1N ((r_body S) x1N))) v S')))))
    | _ => False
def mo_compile (S : MS) (v : Nat) (S' : MS) : Prop := ∃ S25, mo_cutAll (w_thrown S 0) S25 ∧ (∃ S26, mo_readProgram (w_wrong (w_at S25 0) none) S26 ∧ (((r_wrong S26) = none ∧ (∃ n, mo_compile_go n 0 0 (w_program (w_fault S26 (-1)) true) v S')) ∨ (∃ t28, (r_wrong S26) = some t28 ∧ (t28 < 2147483648 ∧ ((r_tokens S26) < 2147483648 ∧ (((r_tokens S26) ≤ t28 ∧ (((r_tokens S26) = 0 ∧ (∃ v36 S36, mo_raise 1 (w_fault S26 (nI 0)) v36 S36 ∧ (v = v36 ∧ S' = S36))) ∨ (¬ (r_tokens S26) = 0 ∧ (1 ≤ (r_tokens S26) ∧ (((r_tokens S26) - 1) < 155 ∧ (∃ v35 S35, mo_raise 1 (w_fault S26 (nI ((r_to S26) ((r_tokens S26) - 1)))) v35 S35 ∧ (v = v35 ∧ S' = S35))))))) ∨ (¬ (r_tokens S26) ≤ t28 ∧ (t28 < 155 ∧ (∃ v38 S38, mo_raise 1 (w_fault S26 (nI ((r_from S26) t28))) v38 S38 ∧ (v = v38 ∧ S' = S38))))))))))
set_option maxHeartbeats 4000000 in
set_option maxRecDepth 100000 in
theorem c_Mo_compile {l : Launch} {z : Zt} {b : Nat → Nat} {S : MS} {v : Nat} {S' : MS} (h : Nat) (hres : mo_compile S v S') : XC l (Gz z) (h + 9) y_Mo_compile b_Mo_compile 2 (some .int) [.ref (b 0)] (mw z b S) (.inl (some (.int (nI v)))) (mw z b S') := by
  rw [mo_compile] at hres
  refine XC.ofV (by decide +kernel) rfl ?_
  intro p e s m below meth c X hnm
  have go : ∀ n : Nat, (∀ (x1N : Nat) (S : MS), mo_compile_go n 0 x1N S v S' → V p l e (Rm (h + 9)) s m ([.ref (b 0)] : List Value).toArray below meth c (Gz z) 2 0 0 (XE below (Gz z) (.inl (some (.int (nI v)))) (mw z b S') ([.ref (b 0)] : List Value).toArray s) (mw z b S) 97 [(0, .ref (b 0)), (1, .int (nI x1N))] []) ∧ (∀ (x1N : Nat) (S : MS), mo_compile_go n 1 x1N S v S' → V p l e (Rm (h + 9)) s m ([.ref (b 0)] : List Value).toArray below meth c (Gz z) 2 0 0 (XE below (Gz z) (.inl (some (.int (nI v)))) (mw z b S') ([.ref (b 0)] : List Value).toArray s) (mw z b S) 161 [(0, .ref (b 0)), (1, .int (nI x1N))] []) ∧ (∀ (x1N : Nat) (S : MS), mo_compile_go n 2 x1N S v S' → V p l e (Rm (h + 9)) s m ([.ref (b 0)] : List Value).toArray below meth c (Gz z) 2 0 0 (XE below (Gz z) (.inl (some (.int (nI v)))) (mw z b S') ([.ref (b 0)] : List Value).toArray s) (mw z b S) 223 [(0, .ref (b 0)), (1, .int (nI x1N))] []) := by
    intro n
    induction n with
    | zero =>
      refine ⟨?_, ?_, ?_⟩
      · intro x1N S hres
        exact absurd hres (by simp only [mo_compile_go, not_false_eq_true])
      · intro x1N S hres
        exact absurd hres (by simp only [mo_compile_go, not_false_eq_true])
      · intro x1N S hres
        exact absurd hres (by simp only [mo_compile_go, not_false_eq_true])
    | succ n ih =>
      refine ⟨?_, ?_, ?_⟩
      · intro x1N S hres
        rw [mo_compile_go] at hres
        try dsimp only at hres
        refine V.iload_n X d_Mo_compile_97 rfl ?_
        refine V.sipush (v := nI 155) X d_Mo_compile_98 (by decide +kernel) ?_
        obtain ⟨g2, hres⟩ := hres
        refine V.cmpN_ge (tgt := 159) X d_Mo_compile_101 (by decide) (by omega) (by omega) (fun h101_1 => ?_) (fun h101_1 => ?_)
        · replace hres := or_t hres h101_1
          refine V.iconst (v := nI 0) X d_Mo_compile_159 (by decide +kernel) ?_
          refine V.istore_n (lv' := [(0, .ref (b 0)), (1, .int (nI 0))]) X d_Mo_compile_160 (by decide) rfl ?_
          refine V.lvs (lv' := [(0, .ref (b 0)), (1, .int (nI 0))]) rfl ?_
          exact ih.2.1 _ S hres
        · replace hres := or_f hres (Nat.not_le.mpr h101_1)
          refine V.aload_n X d_Mo_compile_104 rfl ?_
          refine g_Mo_pKind X k_Mo_32 d_Mo_compile_105 ?_
          refine V.iload_n X d_Mo_compile_108 rfl ?_
          refine V.aload_n X d_Mo_compile_109 rfl ?_
          refine g_Mo_kind X k_Mo_13 d_Mo_compile_110 ?_
          refine V.iload_n X d_Mo_compile_113 rfl ?_
          obtain ⟨g3, hres⟩ := hres
          refine l_Mo_kind (x := ((r_kind S) x1N)) X g3 (congrFun rfl _) d_Mo_compile_114 ?_
          obtain ⟨g4, hres⟩ := hres
          refine s_Mo_pKind (g := (r_pKind S)) X g4 rfl d_Mo_compile_115 ?_
          refine V.aload_n X d_Mo_compile_116 rfl ?_
          refine g_Mo_pWord X k_Mo_35 d_Mo_compile_117 ?_
          refine V.iload_n X d_Mo_compile_120 rfl ?_
          refine V.aload_n X d_Mo_compile_121 rfl ?_
          refine g_Mo_word X k_Mo_16 d_Mo_compile_122 ?_
          refine V.iload_n X d_Mo_compile_125 rfl ?_
          obtain ⟨g5, hres⟩ := hres
          refine l_Mo_word (x := ((r_word S) x1N)) X g5 (congrFun (rw_word_pKind _ _) _) d_Mo_compile_126 ?_
          refine V.l2i X d_Mo_compile_127 rfl ?_
          obtain ⟨g6, hres⟩ := hres
          refine s_Mo_pWord (g := (r_pWord S)) X g6 (rw_pWord_pKind _ _) d_Mo_compile_128 ?_
          refine V.aload_n X d_Mo_compile_129 rfl ?_
          refine g_Mo_pMeans X k_Mo_38 d_Mo_compile_130 ?_
          refine V.iload_n X d_Mo_compile_133 rfl ?_
          refine V.aload_n X d_Mo_compile_134 rfl ?_
          refine g_Mo_means X k_Mo_26 d_Mo_compile_135 ?_
          refine V.iload_n X d_Mo_compile_138 rfl ?_
          obtain ⟨g7, hres⟩ := hres
          refine l_Mo_means (x := ((r_means S) x1N)) X g7 (congrFun (Eq.trans (rw_means_pWord _ _) (rw_means_pKind _ _)) _) d_Mo_compile_139 ?_
          obtain ⟨g8, hres⟩ := hres
          refine s_Mo_pMeans (g := (r_pMeans S)) X g8 (Eq.trans (rw_pMeans_pWord _ _) (rw_pMeans_pKind _ _)) d_Mo_compile_140 ?_
          refine V.aload_n X d_Mo_compile_141 rfl ?_
          refine g_Mo_pNext X k_Mo_41 d_Mo_compile_142 ?_
          refine V.iload_n X d_Mo_compile_145 rfl ?_
          refine V.aload_n X d_Mo_compile_146 rfl ?_
          refine g_Mo_next X k_Mo_29 d_Mo_compile_147 ?_
          refine V.iload_n X d_Mo_compile_150 rfl ?_
          obtain ⟨g9, hres⟩ := hres
          refine l_Mo_next (x := ((r_next S) x1N)) X g9 (congrFun (Eq.trans (rw_next_pMeans _ _) (Eq.trans (rw_next_pWord _ _) (rw_next_pKind _ _))) _) d_Mo_compile_151 ?_
          obtain ⟨g10, hres⟩ := hres
          refine s_Mo_pNext (g := (r_pNext S)) X g10 (Eq.trans (rw_pNext_pMeans _ _) (Eq.trans (rw_pNext_pWord _ _) (rw_pNext_pKind _ _))) d_Mo_compile_152 ?_
          refine V.iinc (lv' := [(0, .ref (b 0)), (1, .int (nI (x1N + 1)))]) X d_Mo_compile_153 rfl (show _ + nI 1 = _ from nI_add _ 1) (by decide) rfl ?_
          refine V.goto (tgt := 97) X d_Mo_compile_156 (by decide) ?_
          refine V.lvs (lv' := [(0, .ref (b 0)), (1, .int (nI (x1N + 1)))]) rfl ?_
          exact ih.1 _ (w_pNext (w_pMeans (w_pWord (w_pKind S (va_up (r_pKind S) x1N ((r_kind S) x1N))) (upd (r_pWord S) x1N (((r_word S) x1N).toInt32))) (va_up (r_pMeans S) x1N ((r_means S) x1N))) (va_up (r_pNext S) x1N ((r_next S) x1N))) hres
      · intro x1N S hres
        rw [mo_compile_go] at hres
        try dsimp only at hres
        refine V.iload_n X d_Mo_compile_161 rfl ?_
        refine V.bipush (v := nI 18) X d_Mo_compile_162 (by decide +kernel) ?_
        obtain ⟨g12, hres⟩ := hres
        refine V.cmpN_ge (tgt := 221) X d_Mo_compile_164 (by decide) (by omega) (by omega) (fun h164_11 => ?_) (fun h164_11 => ?_)
        · replace hres := or_t hres h164_11
          refine V.iconst (v := nI 0) X d_Mo_compile_221 (by decide +kernel) ?_
          refine V.istore_n (lv' := [(0, .ref (b 0)), (1, .int (nI 0))]) X d_Mo_compile_222 (by decide) rfl ?_
          refine V.lvs (lv' := [(0, .ref (b 0)), (1, .int (nI 0))]) rfl ?_
          exact ih.2.2 _ S hres
        · replace hres := or_f hres (Nat.not_le.mpr h164_11)
          refine V.aload_n X d_Mo_compile_167 rfl ?_
          refine g_Mo_pSort X k_Mo_69 d_Mo_compile_168 ?_
          refine V.iload_n X d_Mo_compile_171 rfl ?_
          refine V.aload_n X d_Mo_compile_172 rfl ?_
          refine g_Mo_sort X k_Mo_51 d_Mo_compile_173 ?_
          refine V.iload_n X d_Mo_compile_176 rfl ?_
          obtain ⟨g13, hres⟩ := hres
          refine l_Mo_sort (x := ((r_sort S) x1N)) X g13 (congrFun rfl _) d_Mo_compile_177 ?_
          obtain ⟨g14, hres⟩ := hres
          refine s_Mo_pSort (g := (r_pSort S)) X g14 rfl d_Mo_compile_178 ?_
          refine V.aload_n X d_Mo_compile_179 rfl ?_
          refine g_Mo_pHome X k_Mo_72 d_Mo_compile_180 ?_
          refine V.iload_n X d_Mo_compile_183 rfl ?_
          refine V.aload_n X d_Mo_compile_184 rfl ?_
          refine g_Mo_home X k_Mo_54 d_Mo_compile_185 ?_
          refine V.iload_n X d_Mo_compile_188 rfl ?_
          obtain ⟨g15, hres⟩ := hres
          refine l_Mo_home (x := ((r_home S) x1N)) X g15 (congrFun (rw_home_pSort _ _) _) d_Mo_compile_189 ?_
          obtain ⟨g16, hres⟩ := hres
          refine s_Mo_pHome (g := (r_pHome S)) X g16 (rw_pHome_pSort _ _) d_Mo_compile_190 ?_
          refine V.aload_n X d_Mo_compile_191 rfl ?_
          refine g_Mo_pOwn X k_Mo_75 d_Mo_compile_192 ?_
          refine V.iload_n X d_Mo_compile_195 rfl ?_
          refine V.aload_n X d_Mo_compile_196 rfl ?_
          refine g_Mo_own X k_Mo_57 d_Mo_compile_197 ?_
          refine V.iload_n X d_Mo_compile_200 rfl ?_
          obtain ⟨g17, hres⟩ := hres
          refine l_Mo_own (x := ((r_own S) x1N)) X g17 (congrFun (Eq.trans (rw_own_pHome _ _) (rw_own_pSort _ _)) _) d_Mo_compile_201 ?_
          obtain ⟨g18, hres⟩ := hres
          refine s_Mo_pOwn (g := (r_pOwn S)) X g18 (Eq.trans (rw_pOwn_pHome _ _) (rw_pOwn_pSort _ _)) d_Mo_compile_202 ?_
          refine V.aload_n X d_Mo_compile_203 rfl ?_
          refine g_Mo_pWants X k_Mo_78 d_Mo_compile_204 ?_
          refine V.iload_n X d_Mo_compile_207 rfl ?_
          refine V.aload_n X d_Mo_compile_208 rfl ?_
          refine g_Mo_wants X k_Mo_60 d_Mo_compile_209 ?_
          refine V.iload_n X d_Mo_compile_212 rfl ?_
          obtain ⟨g19, hres⟩ := hres
          refine l_Mo_wants (x := ((r_wants S) x1N)) X g19 (congrFun (Eq.trans (rw_wants_pOwn _ _) (Eq.trans (rw_wants_pHome _ _) (rw_wants_pSort _ _))) _) d_Mo_compile_213 ?_
          obtain ⟨g20, hres⟩ := hres
          refine s_Mo_pWants (g := (r_pWants S)) X g20 (Eq.trans (rw_pWants_pOwn _ _) (Eq.trans (rw_pWants_pHome _ _) (rw_pWants_pSort _ _))) d_Mo_compile_214 ?_
          refine V.iinc (lv' := [(0, .ref (b 0)), (1, .int (nI (x1N + 1)))]) X d_Mo_compile_215 rfl (show _ + nI 1 = _ from nI_add _ 1) (by decide) rfl ?_
          refine V.goto (tgt := 161) X d_Mo_compile_218 (by decide) ?_
          refine V.lvs (lv' := [(0, .ref (b 0)), (1, .int (nI (x1N + 1)))]) rfl ?_
          exact ih.2.1 _ (w_pWants (w_pOwn (w_pHome (w_pSort S (va_up (r_pSort S) x1N ((r_sort S) x1N))) (va_up (r_pHome S) x1N ((r_home S) x1N))) (va_up (r_pOwn S) x1N ((r_own S) x1N))) (va_up (r_pWants S) x1N ((r_wants S) x1N))) hres
      · intro x1N S hres
        rw [mo_compile_go] at hres
        try dsimp only at hres
        refine V.iload_n X d_Mo_compile_223 rfl ?_
        refine V.bipush (v := nI 8) X d_Mo_compile_224 (by decide +kernel) ?_
        obtain ⟨g22, hres⟩ := hres
        refine V.cmpN_ge (tgt := 247) X d_Mo_compile_226 (by decide) (by omega) (by omega) (fun h226_21 => ?_) (fun h226_21 => ?_)
        · replace hres := or_t hres h226_21
          refine V.aload_n X d_Mo_compile_247 rfl ?_
          refine g_Mo_symbols (x := (r_symbols S)) X rfl k_Mo_205 d_Mo_compile_248 ?_
          obtain ⟨rfl, rfl⟩ := hres
          exact V.iret X d_Mo_compile_251 rfl rfl
        · replace hres := or_f hres (Nat.not_le.mpr h226_21)
          refine V.aload_n X d_Mo_compile_229 rfl ?_
          refine g_Mo_pBody X k_Mo_81 d_Mo_compile_230 ?_
          refine V.iload_n X d_Mo_compile_233 rfl ?_
          refine V.aload_n X d_Mo_compile_234 rfl ?_
          refine g_Mo_body X k_Mo_66 d_Mo_compile_235 ?_
          refine V.iload_n X d_Mo_compile_238 rfl ?_
          obtain ⟨g23, hres⟩ := hres
          refine l_Mo_body (x := ((r_body S) x1N)) X g23 (congrFun rfl _) d_Mo_compile_239 ?_
          obtain ⟨g24, hres⟩ := hres
          refine s_Mo_pBody (g := (r_pBody S)) X g24 rfl d_Mo_compile_240 ?_
          refine V.iinc (lv' := [(0, .ref (b 0)), (1, .int (nI (x1N + 1)))]) X d_Mo_compile_241 rfl (show _ + nI 1 = _ from nI_add _ 1) (by decide) rfl ?_
          refine V.goto (tgt := 223) X d_Mo_compile_244 (by decide) ?_
          refine V.lvs (lv' := [(0, .ref (b 0)), (1, .int (nI (x1N + 1)))]) rfl ?_
          exact ih.2.2 _ (w_pBody S (va_up (r_pBody S) x1N ((r_body S) x1N))) hres
  refine V.lvs (lv' := [(0, .ref (b 0))]) rfl ?_
  refine V.aload_n X d_Mo_compile_0 rfl ?_
  refine V.iconst (v := nI 0) X d_Mo_compile_1 (by decide +kernel) ?_
  refine p_Mo_thrown X k_Mo_132 d_Mo_compile_2 ?_
  refine V.aload_n X d_Mo_compile_5 rfl ?_
  obtain ⟨S25, x25, hres⟩ := hres
  refine V.callV0 X (c_Mo_cutAll (h + 6) x25) Y_Mo_cutAll k_Mo_278 0 rfl rfl rfl rfl rfl (Rok.lt (by omega)) d_Mo_compile_6 ?_
  refine V.aload_n X d_Mo_compile_9 rfl ?_
  refine V.iconst (v := nI 0) X d_Mo_compile_10 (by decide +kernel) ?_
  refine p_Mo_at X k_Mo_190 d_Mo_compile_11 ?_
  refine V.aload_n X d_Mo_compile_14 rfl ?_
  refine V.iconst (v := -1) X d_Mo_compile_15 (by decide +kernel) ?_
  refine V.top (v' := .int (fI none)) rfl ?_
  refine p_Mo_wrong X k_Mo_187 d_Mo_compile_16 ?_
  refine V.aload_n X d_Mo_compile_19 rfl ?_
  obtain ⟨S26, x26, hres⟩ := hres
  refine V.callV0 X (c_Mo_readProgram (h + 0) x26) Y_Mo_readProgram k_Mo_281 0 rfl rfl rfl rfl rfl (Rok.lt (by omega)) d_Mo_compile_20 ?_
  refine V.aload_n X d_Mo_compile_23 rfl ?_
  refine g_Mo_wrong (x := (r_wrong S26)) X rfl k_Mo_187 d_Mo_compile_24 ?_
  rcases hres with ⟨qt28, hres⟩ | ⟨t28, qt28, hres⟩
  · refine V.top (v' := .int (-1)) (by rw [qt28]; rfl) ?_
    refine V.if_lt (tgt := 85) X d_Mo_compile_27 (by decide) (fun _ => ?_) (fun h => absurd (by decide) h)
    refine V.aload_n X d_Mo_compile_85 rfl ?_
    refine V.iconst (v := -1) X d_Mo_compile_86 (by decide +kernel) ?_
    refine V.top (v' := .int (-1)) rfl ?_
    refine p_Mo_fault X k_Mo_44 d_Mo_compile_87 ?_
    refine V.aload_n X d_Mo_compile_90 rfl ?_
    refine V.iconst (v := nI 1) X d_Mo_compile_91 (by decide +kernel) ?_
    refine V.top (v' := .int (bI true)) rfl ?_
    refine p_Mo_program X k_Mo_284 d_Mo_compile_92 ?_
    refine V.iconst (v := nI 0) X d_Mo_compile_95 (by decide +kernel) ?_
    refine V.istore_n (lv' := [(0, .ref (b 0)), (1, .int (nI 0))]) X d_Mo_compile_96 (by decide) rfl ?_
    refine V.lvs (lv' := [(0, .ref (b 0)), (1, .int (nI 0))]) rfl ?_
    obtain ⟨n, hres⟩ := hres
    exact (go n).1 _ (w_program (w_fault S26 (-1)) true) hres
  · refine V.top (v' := .int (nI t28)) (by rw [qt28]; rfl) ?_
    obtain ⟨g29, hres⟩ := hres
    refine V.ifN_lt (tgt := 85) X d_Mo_compile_27 (by decide) (by omega) ?_
    refine V.aload_n X d_Mo_compile_30 rfl ?_
    refine V.aload_n X d_Mo_compile_31 rfl ?_
    refine g_Mo_wrong (x := (r_wrong S26)) X rfl k_Mo_187 d_Mo_compile_32 ?_
    refine V.top (v' := .int (nI t28)) (by rw [qt28]; rfl) ?_
    refine V.aload_n X d_Mo_compile_35 rfl ?_
    refine g_Mo_tokens (x := (r_tokens S26)) X rfl k_Mo_162 d_Mo_compile_36 ?_
    obtain ⟨g31, hres⟩ := hres
    refine V.cmpN_ge (tgt := 54) X d_Mo_compile_39 (by decide) (by omega) (by omega) (fun h39_30 => ?_) (fun h39_30 => ?_)
    · replace hres := or_t hres h39_30
      refine V.aload_n X d_Mo_compile_54 rfl ?_
      refine g_Mo_tokens (x := (r_tokens S26)) X rfl k_Mo_162 d_Mo_compile_55 ?_
      refine V.ifN_ne (tgt := 65) X d_Mo_compile_58 (by decide) (by omega) (fun h58_32 => ?_) (fun h58_32 => ?_)
      · replace hres := or_f hres h58_32
        refine V.aload_n X d_Mo_compile_65 rfl ?_
        refine g_Mo_to X k_Mo_23 d_Mo_compile_66 ?_
        refine V.aload_n X d_Mo_compile_69 rfl ?_
        refine g_Mo_tokens (x := (r_tokens S26)) X rfl k_Mo_162 d_Mo_compile_70 ?_
        refine V.iconst (v := nI 1) X d_Mo_compile_73 (by decide +kernel) ?_
        obtain ⟨g33, hres⟩ := hres
        refine V.isub X d_Mo_compile_74 (pk_sub g33) ?_
        obtain ⟨g34, hres⟩ := hres
        refine l_Mo_to (x := ((r_to S26) ((r_tokens S26) - 1))) X g34 (congrFun rfl _) d_Mo_compile_75 ?_
        refine V.top (v' := .int (nI ((r_to S26) ((r_tokens S26) - 1)))) rfl ?_
        refine p_Mo_fault X k_Mo_44 d_Mo_compile_76 ?_
        refine V.aload_n X d_Mo_compile_79 rfl ?_
        refine V.iconst (v := nI 1) X d_Mo_compile_80 (by decide +kernel) ?_
        obtain ⟨v35, S35, x35, hres⟩ := hres
        refine V.callV1 X (c_Mo_raise (h + 7) x35) Y_Mo_raise k_Mo_135 0 rfl rfl rfl rfl rfl (Rok.lt (by omega)) d_Mo_compile_81 ?_
        obtain ⟨rfl, rfl⟩ := hres
        exact V.iret X d_Mo_compile_84 rfl rfl
      · replace hres := or_t hres h58_32
        refine V.iconst (v := nI 0) X d_Mo_compile_61 (by decide +kernel) ?_
        refine V.goto (tgt := 76) X d_Mo_compile_62 (by decide) ?_
        refine V.top (v' := .int (nI 0)) rfl ?_
        refine p_Mo_fault X k_Mo_44 d_Mo_compile_76 ?_
        refine V.aload_n X d_Mo_compile_79 rfl ?_
        refine V.iconst (v := nI 1) X d_Mo_compile_80 (by decide +kernel) ?_
        obtain ⟨v36, S36, x36, hres⟩ := hres
        refine V.callV1 X (c_Mo_raise (h + 7) x36) Y_Mo_raise k_Mo_135 0 rfl rfl rfl rfl rfl (Rok.lt (by omega)) d_Mo_compile_81 ?_
        obtain ⟨rfl, rfl⟩ := hres
        exact V.iret X d_Mo_compile_84 rfl rfl
    · replace hres := or_f hres (Nat.not_le.mpr h39_30)
      refine V.aload_n X d_Mo_compile_42 rfl ?_
      refine g_Mo_from X k_Mo_20 d_Mo_compile_43 ?_
      refine V.aload_n X d_Mo_compile_46 rfl ?_
      refine g_Mo_wrong (x := (r_wrong S26)) X rfl k_Mo_187 d_Mo_compile_47 ?_
      refine V.top (v' := .int (nI t28)) (by rw [qt28]; rfl) ?_
      obtain ⟨g37, hres⟩ := hres
      refine l_Mo_from (x := ((r_from S26) t28)) X g37 (congrFun rfl _) d_Mo_compile_50 ?_
      refine V.goto (tgt := 76) X d_Mo_compile_51 (by decide) ?_
      refine V.top (v' := .int (nI ((r_from S26) t28))) rfl ?_
      refine p_Mo_fault X k_Mo_44 d_Mo_compile_76 ?_
      refine V.aload_n X d_Mo_compile_79 rfl ?_
      refine V.iconst (v := nI 1) X d_Mo_compile_80 (by decide +kernel) ?_
      obtain ⟨v38, S38, x38, hres⟩ := hres
      refine V.callV1 X (c_Mo_raise (h + 7) x38) Y_Mo_raise k_Mo_135 0 rfl rfl rfl rfl rfl (Rok.lt (by omega)) d_Mo_compile_81 ?_
      obtain ⟨rfl, rfl⟩ := hres
      exact V.iret X d_Mo_compile_84 rfl rfl
