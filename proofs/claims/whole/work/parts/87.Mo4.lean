/-! ===== the Model: append, cut, output, count ===== -/
def AX (S : MS) (f : Nat → Nat) (L : Nat) : MS := ((0, f, L, S.1.2.2.2), S.2)
set_option maxHeartbeats 4000000 in
set_option maxRecDepth 100000 in
theorem c_Mo_append_1 {l : Launch} {z : Zt} {b : Nat → Nat} {S : MS} (h : Nat) {v : Int64} {x : Int32} (hx : x < nI 1 ∨ nI 8 < x) : XC l (Gz z) (h + 2) y_Mo_append b_Mo_append 6 (some .int) [.ref (b 0), .long v, .int x] (mw z b S) (.inl (some (.int (nI 0)))) (mw z b (w_thrown (w_thrown S 0) 1)) := by
  refine XC.ofV (by decide +kernel) rfl ?_
  intro p e s m below meth c X hnm
  refine V.lvs (lv' := [(0, .ref (b 0)), (1, .long v), (3, .int x)]) rfl ?_
  refine V.aload_n X d_Mo_append_0 rfl ?_
  refine V.iconst (v := nI 0) X d_Mo_append_1 (by decide +kernel) ?_
  refine p_Mo_thrown X k_Mo_132 d_Mo_append_2 ?_
  refine V.iload_n X d_Mo_append_5 rfl ?_
  refine V.iconst (v := nI 1) X d_Mo_append_6 (by decide +kernel) ?_
  refine V.icmp_lt (tgt := 16) X d_Mo_append_7 (by decide) (fun h7 => ?_) (fun h7 => ?_)
  · refine V.aload_n X d_Mo_append_16 rfl ?_
    refine V.iconst (v := nI 1) X d_Mo_append_17 (by decide +kernel) ?_
    refine V.callV1 X (c_Mo_raise h ⟨rfl, rfl⟩) Y_Mo_raise k_Mo_135 0 rfl rfl rfl rfl rfl (Rok.lt (by omega)) d_Mo_append_18 ?_
    exact V.iret X d_Mo_append_21 rfl rfl
  · refine V.iload_n X d_Mo_append_10 rfl ?_
    refine V.bipush (v := nI 8) X d_Mo_append_11 (by decide +kernel) ?_
    refine V.icmp_le (tgt := 22) X d_Mo_append_13 (by decide) (fun h13 => absurd h13 (fun q => absurd (hx.resolve_left h7) (Int32.not_lt.mpr q))) (fun h13 => ?_)
    refine V.aload_n X d_Mo_append_16 rfl ?_
    refine V.iconst (v := nI 1) X d_Mo_append_17 (by decide +kernel) ?_
    refine V.callV1 X (c_Mo_raise h ⟨rfl, rfl⟩) Y_Mo_raise k_Mo_135 0 rfl rfl rfl rfl rfl (Rok.lt (by omega)) d_Mo_append_18 ?_
    exact V.iret X d_Mo_append_21 rfl rfl
set_option maxHeartbeats 4000000 in
set_option maxRecDepth 100000 in
theorem c_Mo_append_2 {l : Launch} {z : Zt} {b : Nat → Nat} {S : MS} (h : Nat) {v : Int64} {k : Nat} (h1 : 1 ≤ k) (h8 : k ≤ 8) (hc : pm_codes v k = false) : XC l (Gz z) (h + 2) y_Mo_append b_Mo_append 6 (some .int) [.ref (b 0), .long v, .int (nI k)] (mw z b S) (.inl (some (.int (nI 0)))) (mw z b (w_thrown (w_thrown S 0) 1)) := by
  refine XC.ofV (by decide +kernel) rfl ?_
  intro p e s m below meth c X hnm
  refine V.lvs (lv' := [(0, .ref (b 0)), (1, .long v), (3, .int (nI k))]) rfl ?_
  refine V.aload_n X d_Mo_append_0 rfl ?_
  refine V.iconst (v := nI 0) X d_Mo_append_1 (by decide +kernel) ?_
  refine p_Mo_thrown X k_Mo_132 d_Mo_append_2 ?_
  refine V.iload_n X d_Mo_append_5 rfl ?_
  refine V.iconst (v := nI 1) X d_Mo_append_6 (by decide +kernel) ?_
  refine V.cmpN_lt (tgt := 16) X d_Mo_append_7 (by decide) (by first | omega | (dsimp only; omega) | (simp only [] at *; omega)) (by first | omega | (dsimp only; omega) | (simp only [] at *; omega)) (fun h7 => absurd h7 (by omega)) (fun h7 => ?_)
  refine V.iload_n X d_Mo_append_10 rfl ?_
  refine V.bipush (v := nI 8) X d_Mo_append_11 (by decide +kernel) ?_
  refine V.cmpN_le (tgt := 22) X d_Mo_append_13 (by decide) (by first | omega | (dsimp only; omega) | (simp only [] at *; omega)) (by first | omega | (dsimp only; omega) | (simp only [] at *; omega)) (fun h13 => ?_) (fun h13 => absurd h13 (by omega))
  refine V.iconst (v := nI 0) X d_Mo_append_22 (by decide +kernel) ?_
  refine V.istore (lv' := [(0, _), (1, _), (3, _), (4, _)]) X d_Mo_append_23 (by decide) rfl ?_
  suffices loop25 : ∀ n i : Nat, i + n = k → pm_ok v n i = false → V p l e (Rm (h + 2)) s m ([.ref (b 0), .long v, .int (nI k)] : List Value).toArray below meth c (Gz z) 6 0 0 (XE below (Gz z) (.inl (some (.int (nI 0)))) (mw z b (w_thrown (w_thrown S 0) 1)) ([.ref (b 0), .long v, .int (nI k)] : List Value).toArray s) (mw z b (w_thrown S 0)) 25 [(0, .ref (b 0)), (1, .long v), (3, .int (nI k)), (4, .int (nI i))] [] from loop25 k 0 (Nat.zero_add k) hc
  intro n
  induction n with
  | zero =>
    intro i hi hq
    exact absurd hq (by show ¬ true = false; decide)
  | succ n ih =>
    intro i hi hq
    have hb := pm_byte_lt v i
    refine V.iload X d_Mo_append_25 rfl ?_
    refine V.iload_n X d_Mo_append_27 rfl ?_
    refine V.cmpN_ge (tgt := 71) X d_Mo_append_28 (by decide) (by first | omega | (dsimp only; omega) | (simp only [] at *; omega)) (by first | omega | (dsimp only; omega) | (simp only [] at *; omega)) (fun h28 => absurd h28 (by omega)) (fun h28 => ?_)
    refine V.lload_n X d_Mo_append_31 rfl ?_
    refine V.bipush (v := nI 8) X d_Mo_append_32 (by decide +kernel) ?_
    refine V.iload X d_Mo_append_34 rfl ?_
    refine V.imul X d_Mo_append_36 (pk_mul _ _) ?_
    refine V.lshr X d_Mo_append_37 rfl ?_
    refine V.l2i X d_Mo_append_38 rfl ?_
    refine V.sipush (v := nI 255) X d_Mo_append_39 (by decide +kernel) ?_
    refine V.iand X d_Mo_append_42 (byte_s (by omega)) ?_
    refine V.istore (lv' := [(0, _), (1, _), (3, _), (4, _), (5, _)]) X d_Mo_append_43 (by decide) rfl ?_
    refine V.iload X d_Mo_append_45 rfl ?_
    refine V.bipush (v := nI 32) X d_Mo_append_47 (by decide +kernel) ?_
    refine V.cmpN_lt (tgt := 59) X d_Mo_append_49 (by decide) (by first | omega | (dsimp only; omega) | (simp only [] at *; omega)) (by first | omega | (dsimp only; omega) | (simp only [] at *; omega)) (fun h49 => ?_) (fun h49 => ?_)
    · refine V.aload_n X d_Mo_append_59 rfl ?_
      refine V.iconst (v := nI 1) X d_Mo_append_60 (by decide +kernel) ?_
      refine V.callV1 X (c_Mo_raise h ⟨rfl, rfl⟩) Y_Mo_raise k_Mo_135 0 rfl rfl rfl rfl rfl (Rok.lt (by omega)) d_Mo_append_61 ?_
      exact V.iret X d_Mo_append_64 rfl rfl
    · refine V.iload X d_Mo_append_52 rfl ?_
      refine V.bipush (v := nI 126) X d_Mo_append_54 (by decide +kernel) ?_
      refine V.cmpN_le (tgt := 65) X d_Mo_append_56 (by decide) (by first | omega | (dsimp only; omega) | (simp only [] at *; omega)) (by first | omega | (dsimp only; omega) | (simp only [] at *; omega)) (fun h56 => ?_) (fun h56 => ?_)
      · rw [show pm_ok v (n + 1) i = pm_ok v n (i + 1) from if_pos ⟨by omega, by omega⟩] at hq
        refine V.iinc (lv' := [(0, _), (1, _), (3, _), (4, _), (5, _)]) X d_Mo_append_65 rfl (show _ + nI 1 = _ from nI_add _ 1) (by decide) rfl ?_
        refine V.goto (tgt := 25) X d_Mo_append_68 (by decide) ?_
        refine V.pick [0, 1, 2, 3] (lv' := [(0, .ref (b 0)), (1, .long v), (3, .int (nI k)), (4, .int (nI (i + 1)))]) rfl ?_
        exact ih _ (by omega) hq
      · refine V.aload_n X d_Mo_append_59 rfl ?_
        refine V.iconst (v := nI 1) X d_Mo_append_60 (by decide +kernel) ?_
        refine V.callV1 X (c_Mo_raise h ⟨rfl, rfl⟩) Y_Mo_raise k_Mo_135 0 rfl rfl rfl rfl rfl (Rok.lt (by omega)) d_Mo_append_61 ?_
        exact V.iret X d_Mo_append_64 rfl rfl
set_option maxHeartbeats 4000000 in
set_option maxRecDepth 100000 in
theorem c_Mo_append_3 {l : Launch} {z : Zt} {b : Nat → Nat} {S : MS} (h : Nat) {v : Int64} {k : Nat} (h1 : 1 ≤ k) (h8 : k ≤ 8) (hc : pm_codes v k = true) (hL : r_length S ≤ 300) (hl : 300 < r_length S + k) : XC l (Gz z) (h + 2) y_Mo_append b_Mo_append 6 (some .int) [.ref (b 0), .long v, .int (nI k)] (mw z b S) (.inl (some (.int (nI 0)))) (mw z b (w_thrown (w_thrown S 0) 2)) := by
  refine XC.ofV (by decide +kernel) rfl ?_
  intro p e s m below meth c X hnm
  refine V.lvs (lv' := [(0, .ref (b 0)), (1, .long v), (3, .int (nI k))]) rfl ?_
  refine V.aload_n X d_Mo_append_0 rfl ?_
  refine V.iconst (v := nI 0) X d_Mo_append_1 (by decide +kernel) ?_
  refine p_Mo_thrown X k_Mo_132 d_Mo_append_2 ?_
  refine V.iload_n X d_Mo_append_5 rfl ?_
  refine V.iconst (v := nI 1) X d_Mo_append_6 (by decide +kernel) ?_
  refine V.cmpN_lt (tgt := 16) X d_Mo_append_7 (by decide) (by first | omega | (dsimp only; omega) | (simp only [] at *; omega)) (by first | omega | (dsimp only; omega) | (simp only [] at *; omega)) (fun h7 => absurd h7 (by omega)) (fun h7 => ?_)
  refine V.iload_n X d_Mo_append_10 rfl ?_
  refine V.bipush (v := nI 8) X d_Mo_append_11 (by decide +kernel) ?_
  refine V.cmpN_le (tgt := 22) X d_Mo_append_13 (by decide) (by first | omega | (dsimp only; omega) | (simp only [] at *; omega)) (by first | omega | (dsimp only; omega) | (simp only [] at *; omega)) (fun h13 => ?_) (fun h13 => absurd h13 (by omega))
  refine V.iconst (v := nI 0) X d_Mo_append_22 (by decide +kernel) ?_
  refine V.istore (lv' := [(0, _), (1, _), (3, _), (4, _)]) X d_Mo_append_23 (by decide) rfl ?_
  suffices loop25 : ∀ n i : Nat, i + n = k → pm_ok v n i = true → V p l e (Rm (h + 2)) s m ([.ref (b 0), .long v, .int (nI k)] : List Value).toArray below meth c (Gz z) 6 0 0 (XE below (Gz z) (.inl (some (.int (nI 0)))) (mw z b (w_thrown (w_thrown S 0) 2)) ([.ref (b 0), .long v, .int (nI k)] : List Value).toArray s) (mw z b (w_thrown S 0)) 25 [(0, .ref (b 0)), (1, .long v), (3, .int (nI k)), (4, .int (nI i))] [] from loop25 k 0 (Nat.zero_add k) hc
  intro n
  induction n with
  | zero =>
    intro i hi hq
    refine V.iload X d_Mo_append_25 rfl ?_
    refine V.iload_n X d_Mo_append_27 rfl ?_
    refine V.cmpN_ge (tgt := 71) X d_Mo_append_28 (by decide) (by first | omega | (dsimp only; omega) | (simp only [] at *; omega)) (by first | omega | (dsimp only; omega) | (simp only [] at *; omega)) (fun h28 => ?_) (fun h28 => absurd h28 (by omega))
    refine V.aload_n X d_Mo_append_71 rfl ?_
    refine g_Mo_length (x := r_length S) X rfl k_Mo_139 d_Mo_append_72 ?_
    refine V.iload_n X d_Mo_append_75 rfl ?_
    refine V.iadd X d_Mo_append_76 (nI_add _ _) ?_
    refine V.sipush (v := nI 300) X d_Mo_append_77 (by decide +kernel) ?_
    refine V.cmpN_le (tgt := 89) X d_Mo_append_80 (by decide) (by first | omega | (dsimp only; omega) | (simp only [] at *; omega)) (by first | omega | (dsimp only; omega) | (simp only [] at *; omega)) (fun h80 => absurd h80 (by omega)) (fun h80 => ?_)
    refine V.aload_n X d_Mo_append_83 rfl ?_
    refine V.iconst (v := nI 2) X d_Mo_append_84 (by decide +kernel) ?_
    refine V.callV1 X (c_Mo_raise h ⟨rfl, rfl⟩) Y_Mo_raise k_Mo_135 0 rfl rfl rfl rfl rfl (Rok.lt (by omega)) d_Mo_append_85 ?_
    exact V.iret X d_Mo_append_88 rfl rfl
  | succ n ih =>
    intro i hi hq
    have hb := pm_byte_lt v i
    refine V.iload X d_Mo_append_25 rfl ?_
    refine V.iload_n X d_Mo_append_27 rfl ?_
    refine V.cmpN_ge (tgt := 71) X d_Mo_append_28 (by decide) (by first | omega | (dsimp only; omega) | (simp only [] at *; omega)) (by first | omega | (dsimp only; omega) | (simp only [] at *; omega)) (fun h28 => absurd h28 (by omega)) (fun h28 => ?_)
    refine V.lload_n X d_Mo_append_31 rfl ?_
    refine V.bipush (v := nI 8) X d_Mo_append_32 (by decide +kernel) ?_
    refine V.iload X d_Mo_append_34 rfl ?_
    refine V.imul X d_Mo_append_36 (pk_mul _ _) ?_
    refine V.lshr X d_Mo_append_37 rfl ?_
    refine V.l2i X d_Mo_append_38 rfl ?_
    refine V.sipush (v := nI 255) X d_Mo_append_39 (by decide +kernel) ?_
    refine V.iand X d_Mo_append_42 (byte_s (by omega)) ?_
    refine V.istore (lv' := [(0, _), (1, _), (3, _), (4, _), (5, _)]) X d_Mo_append_43 (by decide) rfl ?_
    refine V.iload X d_Mo_append_45 rfl ?_
    refine V.bipush (v := nI 32) X d_Mo_append_47 (by decide +kernel) ?_
    refine V.cmpN_lt (tgt := 59) X d_Mo_append_49 (by decide) (by first | omega | (dsimp only; omega) | (simp only [] at *; omega)) (by first | omega | (dsimp only; omega) | (simp only [] at *; omega)) (fun h49 => absurd h49 (fun q => absurd hq (by rw [show pm_ok v (n + 1) i = false from if_neg (by omega)]; decide))) (fun h49 => ?_)
    refine V.iload X d_Mo_append_52 rfl ?_
    refine V.bipush (v := nI 126) X d_Mo_append_54 (by decide +kernel) ?_
    refine V.cmpN_le (tgt := 65) X d_Mo_append_56 (by decide) (by first | omega | (dsimp only; omega) | (simp only [] at *; omega)) (by first | omega | (dsimp only; omega) | (simp only [] at *; omega)) (fun h56 => ?_) (fun h56 => absurd h56 (fun q => absurd hq (by rw [show pm_ok v (n + 1) i = false from if_neg (by omega)]; decide)))
    rw [show pm_ok v (n + 1) i = pm_ok v n (i + 1) from if_pos ⟨by omega, by omega⟩] at hq
    refine V.iinc (lv' := [(0, _), (1, _), (3, _), (4, _), (5, _)]) X d_Mo_append_65 rfl (show _ + nI 1 = _ from nI_add _ 1) (by decide) rfl ?_
    refine V.goto (tgt := 25) X d_Mo_append_68 (by decide) ?_
    refine V.pick [0, 1, 2, 3] (lv' := [(0, .ref (b 0)), (1, .long v), (3, .int (nI k)), (4, .int (nI (i + 1)))]) rfl ?_
    exact ih _ (by omega) hq
set_option maxHeartbeats 4000000 in
set_option maxRecDepth 100000 in
theorem c_Mo_append_4 {l : Launch} {z : Zt} {b : Nat → Nat} {S : MS} (h : Nat) {v : Int64} {k : Nat} (h1 : 1 ≤ k) (h8 : k ≤ 8) (hc : pm_codes v k = true) (hl : r_length S + k ≤ 300) : XC l (Gz z) (h + 2) y_Mo_append b_Mo_append 6 (some .int) [.ref (b 0), .long v, .int (nI k)] (mw z b S) (.inl (some (.int (nI (r_length S + k))))) (mw z b (AX S (pm_put v k (r_text S) (r_length S)) (r_length S + k))) := by
  refine XC.ofV (by decide +kernel) rfl ?_
  intro p e s m below meth c X hnm
  refine V.lvs (lv' := [(0, .ref (b 0)), (1, .long v), (3, .int (nI k))]) rfl ?_
  refine V.aload_n X d_Mo_append_0 rfl ?_
  refine V.iconst (v := nI 0) X d_Mo_append_1 (by decide +kernel) ?_
  refine p_Mo_thrown X k_Mo_132 d_Mo_append_2 ?_
  refine V.iload_n X d_Mo_append_5 rfl ?_
  refine V.iconst (v := nI 1) X d_Mo_append_6 (by decide +kernel) ?_
  refine V.cmpN_lt (tgt := 16) X d_Mo_append_7 (by decide) (by first | omega | (dsimp only; omega) | (simp only [] at *; omega)) (by first | omega | (dsimp only; omega) | (simp only [] at *; omega)) (fun h7 => absurd h7 (by omega)) (fun h7 => ?_)
  refine V.iload_n X d_Mo_append_10 rfl ?_
  refine V.bipush (v := nI 8) X d_Mo_append_11 (by decide +kernel) ?_
  refine V.cmpN_le (tgt := 22) X d_Mo_append_13 (by decide) (by first | omega | (dsimp only; omega) | (simp only [] at *; omega)) (by first | omega | (dsimp only; omega) | (simp only [] at *; omega)) (fun h13 => ?_) (fun h13 => absurd h13 (by omega))
  refine V.iconst (v := nI 0) X d_Mo_append_22 (by decide +kernel) ?_
  refine V.istore (lv' := [(0, _), (1, _), (3, _), (4, _)]) X d_Mo_append_23 (by decide) rfl ?_
  suffices loop25 : ∀ n i : Nat, i + n = k → pm_ok v n i = true → V p l e (Rm (h + 2)) s m ([.ref (b 0), .long v, .int (nI k)] : List Value).toArray below meth c (Gz z) 6 0 0 (XE below (Gz z) (.inl (some (.int (nI (r_length S + k))))) (mw z b (AX S (pm_put v k (r_text S) (r_length S)) (r_length S + k))) ([.ref (b 0), .long v, .int (nI k)] : List Value).toArray s) (mw z b (w_thrown S 0)) 25 [(0, .ref (b 0)), (1, .long v), (3, .int (nI k)), (4, .int (nI i))] [] from loop25 k 0 (Nat.zero_add k) hc
  intro n
  induction n with
  | zero =>
    intro i hi hq
    refine V.iload X d_Mo_append_25 rfl ?_
    refine V.iload_n X d_Mo_append_27 rfl ?_
    refine V.cmpN_ge (tgt := 71) X d_Mo_append_28 (by decide) (by first | omega | (dsimp only; omega) | (simp only [] at *; omega)) (by first | omega | (dsimp only; omega) | (simp only [] at *; omega)) (fun h28 => ?_) (fun h28 => absurd h28 (by omega))
    refine V.aload_n X d_Mo_append_71 rfl ?_
    refine g_Mo_length (x := r_length S) X rfl k_Mo_139 d_Mo_append_72 ?_
    refine V.iload_n X d_Mo_append_75 rfl ?_
    refine V.iadd X d_Mo_append_76 (nI_add _ _) ?_
    refine V.sipush (v := nI 300) X d_Mo_append_77 (by decide +kernel) ?_
    refine V.cmpN_le (tgt := 89) X d_Mo_append_80 (by decide) (by first | omega | (dsimp only; omega) | (simp only [] at *; omega)) (by first | omega | (dsimp only; omega) | (simp only [] at *; omega)) (fun h80 => ?_) (fun h80 => absurd h80 (by omega))
    refine V.iload_n X d_Mo_append_89 rfl ?_
    refine V.iconst (v := nI 1) X d_Mo_append_90 (by decide +kernel) ?_
    refine V.isub X d_Mo_append_91 (jI_sub _) ?_
    refine V.istore (lv' := [(0, _), (1, _), (3, _), (4, _)]) X d_Mo_append_92 (by decide) rfl ?_
    suffices loop94 : ∀ (i : Nat) (f : Nat → Nat) (L : Nat), i ≤ 8 → L + i ≤ 300 → V p l e (Rm (h + 2)) s m ([.ref (b 0), .long v, .int (nI k)] : List Value).toArray below meth c (Gz z) 6 0 0 (XE below (Gz z) (.inl (some (.int (nI (L + i))))) (mw z b (AX S (pm_put v i f L) (L + i))) ([.ref (b 0), .long v, .int (nI k)] : List Value).toArray s) (mw z b (AX S f L)) 94 [(0, .ref (b 0)), (1, .long v), (3, .int (nI k)), (4, .int (jI i))] [] from V.eqw (ws' := mw z b (AX S (r_text S) (r_length S))) rfl (loop94 k (r_text S) (r_length S) h8 hl)
    intro i
    induction i with
    | zero =>
      intro f L hi hL
      refine V.lvs (lv' := [(0, .ref (b 0)), (1, .long v), (3, .int (nI k)), (4, .int (-1))]) rfl ?_
      refine V.iload X d_Mo_append_94 rfl ?_
      refine V.if_lt (tgt := 136) X d_Mo_append_96 (by decide) (fun _ => ?_) (fun h => absurd (by decide) h)
      refine V.aload_n X d_Mo_append_136 rfl ?_
      refine g_Mo_length (x := L) X rfl k_Mo_139 d_Mo_append_137 ?_
      exact V.iret X d_Mo_append_140 rfl rfl
    | succ i ih =>
      intro f L hi hL
      have hb := pm_byte_lt v i
      refine V.lvs (lv' := [(0, .ref (b 0)), (1, .long v), (3, .int (nI k)), (4, .int (nI i))]) rfl ?_
      rw [show L + (i + 1) = (L + 1) + i by omega]
      rw [show pm_put v (i + 1) f L = pm_put v i (va_up f L (pm_byte v i)) (L + 1) from rfl]
      refine V.iload X d_Mo_append_94 rfl ?_
      refine V.ifN_lt (tgt := 136) X d_Mo_append_96 (by decide) (by first | omega | (dsimp only; omega) | (simp only [] at *; omega)) ?_
      refine V.aload_n X d_Mo_append_99 rfl ?_
      refine g_Mo_text X k_Mo_7 d_Mo_append_100 ?_
      refine V.aload_n X d_Mo_append_103 rfl ?_
      refine g_Mo_length (x := L) X rfl k_Mo_139 d_Mo_append_104 ?_
      refine V.lload_n X d_Mo_append_107 rfl ?_
      refine V.bipush (v := nI 8) X d_Mo_append_108 (by decide +kernel) ?_
      refine V.iload X d_Mo_append_110 rfl ?_
      refine V.imul X d_Mo_append_112 (pk_mul _ _) ?_
      refine V.lshr X d_Mo_append_113 rfl ?_
      refine V.l2i X d_Mo_append_114 rfl ?_
      refine V.sipush (v := nI 255) X d_Mo_append_115 (by decide +kernel) ?_
      refine V.iand X d_Mo_append_118 (byte_s (by omega)) ?_
      refine s_Mo_text (g := f) X (by first | omega | (dsimp only; omega) | (simp only [] at *; omega)) rfl d_Mo_append_119 ?_
      refine V.aload_n X d_Mo_append_120 rfl ?_
      refine V.dup X d_Mo_append_121 rfl ?_
      refine g_Mo_length (x := L) X rfl k_Mo_139 d_Mo_append_122 ?_
      refine V.iconst (v := nI 1) X d_Mo_append_125 (by decide +kernel) ?_
      refine V.iadd X d_Mo_append_126 (nI_add _ _) ?_
      refine p_Mo_length X k_Mo_139 d_Mo_append_127 ?_
      refine V.iinc (lv' := [(0, _), (1, _), (3, _), (4, _)]) X d_Mo_append_130 rfl (jI_dec _) (by decide) rfl ?_
      refine V.goto (tgt := 94) X d_Mo_append_133 (by decide) ?_
      refine V.eqw (ws' := mw z b (AX S (va_up f L (pm_byte v i)) (L + 1))) rfl ?_
      exact ih _ _ (by omega) (by omega)
  | succ n ih =>
    intro i hi hq
    have hb := pm_byte_lt v i
    refine V.iload X d_Mo_append_25 rfl ?_
    refine V.iload_n X d_Mo_append_27 rfl ?_
    refine V.cmpN_ge (tgt := 71) X d_Mo_append_28 (by decide) (by first | omega | (dsimp only; omega) | (simp only [] at *; omega)) (by first | omega | (dsimp only; omega) | (simp only [] at *; omega)) (fun h28 => absurd h28 (by omega)) (fun h28 => ?_)
    refine V.lload_n X d_Mo_append_31 rfl ?_
    refine V.bipush (v := nI 8) X d_Mo_append_32 (by decide +kernel) ?_
    refine V.iload X d_Mo_append_34 rfl ?_
    refine V.imul X d_Mo_append_36 (pk_mul _ _) ?_
    refine V.lshr X d_Mo_append_37 rfl ?_
    refine V.l2i X d_Mo_append_38 rfl ?_
    refine V.sipush (v := nI 255) X d_Mo_append_39 (by decide +kernel) ?_
    refine V.iand X d_Mo_append_42 (byte_s (by omega)) ?_
    refine V.istore (lv' := [(0, _), (1, _), (3, _), (4, _), (5, _)]) X d_Mo_append_43 (by decide) rfl ?_
    refine V.iload X d_Mo_append_45 rfl ?_
    refine V.bipush (v := nI 32) X d_Mo_append_47 (by decide +kernel) ?_
    refine V.cmpN_lt (tgt := 59) X d_Mo_append_49 (by decide) (by first | omega | (dsimp only; omega) | (simp only [] at *; omega)) (by first | omega | (dsimp only; omega) | (simp only [] at *; omega)) (fun h49 => absurd h49 (fun q => absurd hq (by rw [show pm_ok v (n + 1) i = false from if_neg (by omega)]; decide))) (fun h49 => ?_)
    refine V.iload X d_Mo_append_52 rfl ?_
    refine V.bipush (v := nI 126) X d_Mo_append_54 (by decide +kernel) ?_
    refine V.cmpN_le (tgt := 65) X d_Mo_append_56 (by decide) (by first | omega | (dsimp only; omega) | (simp only [] at *; omega)) (by first | omega | (dsimp only; omega) | (simp only [] at *; omega)) (fun h56 => ?_) (fun h56 => absurd h56 (fun q => absurd hq (by rw [show pm_ok v (n + 1) i = false from if_neg (by omega)]; decide)))
    rw [show pm_ok v (n + 1) i = pm_ok v n (i + 1) from if_pos ⟨by omega, by omega⟩] at hq
    refine V.iinc (lv' := [(0, _), (1, _), (3, _), (4, _), (5, _)]) X d_Mo_append_65 rfl (show _ + nI 1 = _ from nI_add _ 1) (by decide) rfl ?_
    refine V.goto (tgt := 25) X d_Mo_append_68 (by decide) ?_
    refine V.pick [0, 1, 2, 3] (lv' := [(0, .ref (b 0)), (1, .long v), (3, .int (nI k)), (4, .int (nI (i + 1)))]) rfl ?_
    exact ih _ (by omega) hq
set_option maxHeartbeats 4000000 in
set_option maxRecDepth 100000 in
theorem c_Mo_cut_1 {l : Launch} {z : Zt} {b : Nat → Nat} {S : MS} (h : Nat) {x : Int32} (hx : x < 0 ∨ nI (r_length S) < x) : XC l (Gz z) (h + 2) y_Mo_cut b_Mo_cut 2 (some .int) [.ref (b 0), .int x] (mw z b S) (.inl (some (.int (nI 0)))) (mw z b (w_thrown (w_thrown S 0) 1)) := by
  refine XC.ofV (by decide +kernel) rfl ?_
  intro p e s m below meth c X hnm
  refine V.lvs (lv' := [(0, .ref (b 0)), (1, .int x)]) rfl ?_
  refine V.aload_n X d_Mo_cut_0 rfl ?_
  refine V.iconst (v := nI 0) X d_Mo_cut_1 (by decide +kernel) ?_
  refine p_Mo_thrown X k_Mo_132 d_Mo_cut_2 ?_
  refine V.iload_n X d_Mo_cut_5 rfl ?_
  refine V.if_lt (tgt := 17) X d_Mo_cut_6 (by decide) (fun h6 => ?_) (fun h6 => ?_)
  · refine V.aload_n X d_Mo_cut_17 rfl ?_
    refine V.iconst (v := nI 1) X d_Mo_cut_18 (by decide +kernel) ?_
    refine V.callV1 X (c_Mo_raise h ⟨rfl, rfl⟩) Y_Mo_raise k_Mo_135 0 rfl rfl rfl rfl rfl (Rok.lt (by omega)) d_Mo_cut_19 ?_
    exact V.iret X d_Mo_cut_22 rfl rfl
  · refine V.iload_n X d_Mo_cut_9 rfl ?_
    refine V.aload_n X d_Mo_cut_10 rfl ?_
    refine g_Mo_length (x := r_length S) X rfl k_Mo_139 d_Mo_cut_11 ?_
    refine V.icmp_le (tgt := 23) X d_Mo_cut_14 (by decide) (fun h14 => absurd h14 (fun q => absurd (hx.resolve_left h6) (Int32.not_lt.mpr q))) (fun h14 => ?_)
    refine V.aload_n X d_Mo_cut_17 rfl ?_
    refine V.iconst (v := nI 1) X d_Mo_cut_18 (by decide +kernel) ?_
    refine V.callV1 X (c_Mo_raise h ⟨rfl, rfl⟩) Y_Mo_raise k_Mo_135 0 rfl rfl rfl rfl rfl (Rok.lt (by omega)) d_Mo_cut_19 ?_
    exact V.iret X d_Mo_cut_22 rfl rfl
set_option maxHeartbeats 4000000 in
set_option maxRecDepth 100000 in
theorem c_Mo_cut_2 {l : Launch} {z : Zt} {b : Nat → Nat} {S : MS} (h : Nat) {k : Nat} (hk : k ≤ r_length S) (hL : r_length S ≤ 300) : XC l (Gz z) (h + 2) y_Mo_cut b_Mo_cut 2 (some .int) [.ref (b 0), .int (nI k)] (mw z b S) (.inl (some (.int (nI (r_length S - k))))) (mw z b (AX S (r_text S) (r_length S - k))) := by
  refine XC.ofV (by decide +kernel) rfl ?_
  intro p e s m below meth c X hnm
  refine V.lvs (lv' := [(0, .ref (b 0)), (1, .int (nI k))]) rfl ?_
  refine V.aload_n X d_Mo_cut_0 rfl ?_
  refine V.iconst (v := nI 0) X d_Mo_cut_1 (by decide +kernel) ?_
  refine p_Mo_thrown X k_Mo_132 d_Mo_cut_2 ?_
  refine V.iload_n X d_Mo_cut_5 rfl ?_
  refine V.ifN_lt (tgt := 17) X d_Mo_cut_6 (by decide) (by first | omega | (dsimp only; omega) | (simp only [] at *; omega)) ?_
  refine V.iload_n X d_Mo_cut_9 rfl ?_
  refine V.aload_n X d_Mo_cut_10 rfl ?_
  refine g_Mo_length (x := r_length S) X rfl k_Mo_139 d_Mo_cut_11 ?_
  refine V.cmpN_le (tgt := 23) X d_Mo_cut_14 (by decide) (by first | omega | (dsimp only; omega) | (simp only [] at *; omega)) (by first | omega | (dsimp only; omega) | (simp only [] at *; omega)) (fun h14 => ?_) (fun h14 => absurd h14 (by omega))
  refine V.aload_n X d_Mo_cut_23 rfl ?_
  refine V.dup X d_Mo_cut_24 rfl ?_
  refine g_Mo_length (x := r_length S) X rfl k_Mo_139 d_Mo_cut_25 ?_
  refine V.iload_n X d_Mo_cut_28 rfl ?_
  refine V.isub X d_Mo_cut_29 (pk_sub (by first | omega | (dsimp only; omega) | (simp only [] at *; omega))) ?_
  refine p_Mo_length X k_Mo_139 d_Mo_cut_30 ?_
  refine V.aload_n X d_Mo_cut_33 rfl ?_
  refine g_Mo_length (x := r_length S - k) X rfl k_Mo_139 d_Mo_cut_34 ?_
  exact V.iret X d_Mo_cut_37 rfl rfl
set_option maxHeartbeats 4000000 in
set_option maxRecDepth 100000 in
theorem c_Mo_output_1 {l : Launch} {z : Zt} {b : Nat → Nat} {S : MS} (h : Nat) {x : Int32} (hx : x < 0 ∨ nI (r_written S) ≤ x) : XC l (Gz z) (h + 2) y_Mo_output b_Mo_output 2 (some .int) [.ref (b 0), .int x] (mw z b S) (.inl (some (.int (nI 0)))) (mw z b (w_thrown (w_thrown S 0) 1)) := by
  refine XC.ofV (by decide +kernel) rfl ?_
  intro p e s m below meth c X hnm
  refine V.lvs (lv' := [(0, .ref (b 0)), (1, .int x)]) rfl ?_
  refine V.aload_n X d_Mo_output_0 rfl ?_
  refine V.iconst (v := nI 0) X d_Mo_output_1 (by decide +kernel) ?_
  refine p_Mo_thrown X k_Mo_132 d_Mo_output_2 ?_
  refine V.iload_n X d_Mo_output_5 rfl ?_
  refine V.if_lt (tgt := 17) X d_Mo_output_6 (by decide) (fun h6 => ?_) (fun h6 => ?_)
  · refine V.aload_n X d_Mo_output_17 rfl ?_
    refine V.iconst (v := nI 1) X d_Mo_output_18 (by decide +kernel) ?_
    refine V.callV1 X (c_Mo_raise h ⟨rfl, rfl⟩) Y_Mo_raise k_Mo_135 0 rfl rfl rfl rfl rfl (Rok.lt (by omega)) d_Mo_output_19 ?_
    refine V.goto (tgt := 31) X d_Mo_output_22 (by decide) ?_
    exact V.iret X d_Mo_output_31 rfl rfl
  · refine V.iload_n X d_Mo_output_9 rfl ?_
    refine V.aload_n X d_Mo_output_10 rfl ?_
    refine g_Mo_written (x := r_written S) X rfl k_Mo_324 d_Mo_output_11 ?_
    refine V.icmp_lt (tgt := 25) X d_Mo_output_14 (by decide) (fun h14 => absurd h14 (fun q => absurd (hx.resolve_left h6) (Int32.not_le.mpr q))) (fun h14 => ?_)
    refine V.aload_n X d_Mo_output_17 rfl ?_
    refine V.iconst (v := nI 1) X d_Mo_output_18 (by decide +kernel) ?_
    refine V.callV1 X (c_Mo_raise h ⟨rfl, rfl⟩) Y_Mo_raise k_Mo_135 0 rfl rfl rfl rfl rfl (Rok.lt (by omega)) d_Mo_output_19 ?_
    refine V.goto (tgt := 31) X d_Mo_output_22 (by decide) ?_
    exact V.iret X d_Mo_output_31 rfl rfl
set_option maxHeartbeats 4000000 in
set_option maxRecDepth 100000 in
theorem c_Mo_output_2 {l : Launch} {z : Zt} {b : Nat → Nat} {S : MS} (h : Nat) {k : Nat} (hk : k < r_written S) (hw : r_written S ≤ 32) : XC l (Gz z) (h + 2) y_Mo_output b_Mo_output 2 (some .int) [.ref (b 0), .int (nI k)] (mw z b S) (.inl (some (.int (r_output S k)))) (mw z b (w_thrown S 0)) := by
  refine XC.ofV (by decide +kernel) rfl ?_
  intro p e s m below meth c X hnm
  refine V.lvs (lv' := [(0, .ref (b 0)), (1, .int (nI k))]) rfl ?_
  refine V.aload_n X d_Mo_output_0 rfl ?_
  refine V.iconst (v := nI 0) X d_Mo_output_1 (by decide +kernel) ?_
  refine p_Mo_thrown X k_Mo_132 d_Mo_output_2 ?_
  refine V.iload_n X d_Mo_output_5 rfl ?_
  refine V.ifN_lt (tgt := 17) X d_Mo_output_6 (by decide) (by first | omega | (dsimp only; omega) | (simp only [] at *; omega)) ?_
  refine V.iload_n X d_Mo_output_9 rfl ?_
  refine V.aload_n X d_Mo_output_10 rfl ?_
  refine g_Mo_written (x := r_written S) X rfl k_Mo_324 d_Mo_output_11 ?_
  refine V.cmpN_lt (tgt := 25) X d_Mo_output_14 (by decide) (by first | omega | (dsimp only; omega) | (simp only [] at *; omega)) (by first | omega | (dsimp only; omega) | (simp only [] at *; omega)) (fun h14 => ?_) (fun h14 => absurd h14 (by omega))
  refine V.aload_n X d_Mo_output_25 rfl ?_
  refine g_Mo_output X k_Mo_114 d_Mo_output_26 ?_
  refine V.iload_n X d_Mo_output_29 rfl ?_
  refine l_Mo_output (x := r_output S k) X (by first | omega | (dsimp only; omega) | (simp only [] at *; omega)) rfl d_Mo_output_30 ?_
  exact V.iret X d_Mo_output_31 rfl rfl
set_option maxHeartbeats 4000000 in
set_option maxRecDepth 100000 in
theorem c_Mo_count_0 {l : Launch} {z : Zt} {b : Nat → Nat} {S : MS} (h : Nat)  : XC l (Gz z) (h + 2) y_Mo_count b_Mo_count 2 (some .int) [.ref (b 0), .int (nI 0)] (mw z b S) (.inl (some (.int (nI (r_written S))))) (mw z b (w_thrown S 0)) := by
  refine XC.ofV (by decide +kernel) rfl ?_
  intro p e s m below meth c X hnm
  refine V.lvs (lv' := [(0, .ref (b 0)), (1, .int (nI 0))]) rfl ?_
  refine V.aload_n X d_Mo_count_0 rfl ?_
  refine V.iconst (v := nI 0) X d_Mo_count_1 (by decide +kernel) ?_
  refine p_Mo_thrown X k_Mo_132 d_Mo_count_2 ?_
  refine V.iload_n X d_Mo_count_5 rfl ?_
  refine V.tableIn (off := 34) (tgt := 40) X d_Mo_count_6 (by decide +kernel) (by decide +kernel) (by decide +kernel) (by decide) ?_
  refine V.aload_n X d_Mo_count_40 rfl ?_
  refine g_Mo_written (x := r_written S) X rfl k_Mo_324 d_Mo_count_41 ?_
  exact V.iret X d_Mo_count_44 rfl rfl
set_option maxHeartbeats 4000000 in
set_option maxRecDepth 100000 in
theorem c_Mo_count_1 {l : Launch} {z : Zt} {b : Nat → Nat} {S : MS} (h : Nat)  : XC l (Gz z) (h + 2) y_Mo_count b_Mo_count 2 (some .int) [.ref (b 0), .int (nI 1)] (mw z b S) (.inl (some (.int (nI (r_lost S))))) (mw z b (w_thrown S 0)) := by
  refine XC.ofV (by decide +kernel) rfl ?_
  intro p e s m below meth c X hnm
  refine V.lvs (lv' := [(0, .ref (b 0)), (1, .int (nI 1))]) rfl ?_
  refine V.aload_n X d_Mo_count_0 rfl ?_
  refine V.iconst (v := nI 0) X d_Mo_count_1 (by decide +kernel) ?_
  refine p_Mo_thrown X k_Mo_132 d_Mo_count_2 ?_
  refine V.iload_n X d_Mo_count_5 rfl ?_
  refine V.tableIn (off := 39) (tgt := 45) X d_Mo_count_6 (by decide +kernel) (by decide +kernel) (by decide +kernel) (by decide) ?_
  refine V.aload_n X d_Mo_count_45 rfl ?_
  refine g_Mo_lost (x := r_lost S) X rfl k_Mo_327 d_Mo_count_46 ?_
  exact V.iret X d_Mo_count_49 rfl rfl
set_option maxHeartbeats 4000000 in
set_option maxRecDepth 100000 in
theorem c_Mo_count_2 {l : Launch} {z : Zt} {b : Nat → Nat} {S : MS} (h : Nat)  : XC l (Gz z) (h + 2) y_Mo_count b_Mo_count 2 (some .int) [.ref (b 0), .int (nI 2)] (mw z b S) (.inl (some (.int (nI (r_steps S))))) (mw z b (w_thrown S 0)) := by
  refine XC.ofV (by decide +kernel) rfl ?_
  intro p e s m below meth c X hnm
  refine V.lvs (lv' := [(0, .ref (b 0)), (1, .int (nI 2))]) rfl ?_
  refine V.aload_n X d_Mo_count_0 rfl ?_
  refine V.iconst (v := nI 0) X d_Mo_count_1 (by decide +kernel) ?_
  refine p_Mo_thrown X k_Mo_132 d_Mo_count_2 ?_
  refine V.iload_n X d_Mo_count_5 rfl ?_
  refine V.tableIn (off := 44) (tgt := 50) X d_Mo_count_6 (by decide +kernel) (by decide +kernel) (by decide +kernel) (by decide) ?_
  refine V.aload_n X d_Mo_count_50 rfl ?_
  refine g_Mo_steps (x := r_steps S) X rfl k_Mo_315 d_Mo_count_51 ?_
  exact V.iret X d_Mo_count_54 rfl rfl
set_option maxHeartbeats 4000000 in
set_option maxRecDepth 100000 in
theorem c_Mo_count_3 {l : Launch} {z : Zt} {b : Nat → Nat} {S : MS} (h : Nat)  : XC l (Gz z) (h + 2) y_Mo_count b_Mo_count 2 (some .int) [.ref (b 0), .int (nI 3)] (mw z b S) (.inl (some (.int (nI (r_greatest S))))) (mw z b (w_thrown S 0)) := by
  refine XC.ofV (by decide +kernel) rfl ?_
  intro p e s m below meth c X hnm
  refine V.lvs (lv' := [(0, .ref (b 0)), (1, .int (nI 3))]) rfl ?_
  refine V.aload_n X d_Mo_count_0 rfl ?_
  refine V.iconst (v := nI 0) X d_Mo_count_1 (by decide +kernel) ?_
  refine p_Mo_thrown X k_Mo_132 d_Mo_count_2 ?_
  refine V.iload_n X d_Mo_count_5 rfl ?_
  refine V.tableIn (off := 49) (tgt := 55) X d_Mo_count_6 (by decide +kernel) (by decide +kernel) (by decide +kernel) (by decide) ?_
  refine V.aload_n X d_Mo_count_55 rfl ?_
  refine g_Mo_greatest (x := r_greatest S) X rfl k_Mo_321 d_Mo_count_56 ?_
  exact V.iret X d_Mo_count_59 rfl rfl
set_option maxHeartbeats 4000000 in
set_option maxRecDepth 100000 in
theorem c_Mo_count_4 {l : Launch} {z : Zt} {b : Nat → Nat} {S : MS} (h : Nat)  : XC l (Gz z) (h + 2) y_Mo_count b_Mo_count 2 (some .int) [.ref (b 0), .int (nI 4)] (mw z b S) (.inl (some (.int (nI (r_length S))))) (mw z b (w_thrown S 0)) := by
  refine XC.ofV (by decide +kernel) rfl ?_
  intro p e s m below meth c X hnm
  refine V.lvs (lv' := [(0, .ref (b 0)), (1, .int (nI 4))]) rfl ?_
  refine V.aload_n X d_Mo_count_0 rfl ?_
  refine V.iconst (v := nI 0) X d_Mo_count_1 (by decide +kernel) ?_
  refine p_Mo_thrown X k_Mo_132 d_Mo_count_2 ?_
  refine V.iload_n X d_Mo_count_5 rfl ?_
  refine V.tableIn (off := 54) (tgt := 60) X d_Mo_count_6 (by decide +kernel) (by decide +kernel) (by decide +kernel) (by decide) ?_
  refine V.aload_n X d_Mo_count_60 rfl ?_
  refine g_Mo_length (x := r_length S) X rfl k_Mo_139 d_Mo_count_61 ?_
  exact V.iret X d_Mo_count_64 rfl rfl
set_option maxHeartbeats 4000000 in
set_option maxRecDepth 100000 in
theorem c_Mo_count_x {l : Launch} {z : Zt} {b : Nat → Nat} {S : MS} (h : Nat) {x : Int32} (hx : x.toInt < 0 ∨ 4 < x.toInt) : XC l (Gz z) (h + 2) y_Mo_count b_Mo_count 2 (some .int) [.ref (b 0), .int x] (mw z b S) (.inl (some (.int (nI 0)))) (mw z b (w_thrown (w_thrown S 0) 1)) := by
  refine XC.ofV (by decide +kernel) rfl ?_
  intro p e s m below meth c X hnm
  refine V.lvs (lv' := [(0, .ref (b 0)), (1, .int x)]) rfl ?_
  refine V.aload_n X d_Mo_count_0 rfl ?_
  refine V.iconst (v := nI 0) X d_Mo_count_1 (by decide +kernel) ?_
  refine p_Mo_thrown X k_Mo_132 d_Mo_count_2 ?_
  refine V.iload_n X d_Mo_count_5 rfl ?_
  refine V.tableOut (tgt := 65) X d_Mo_count_6 hx (by decide) ?_
  refine V.aload_n X d_Mo_count_65 rfl ?_
  refine V.iconst (v := nI 1) X d_Mo_count_66 (by decide +kernel) ?_
  refine V.callV1 X (c_Mo_raise h ⟨rfl, rfl⟩) Y_Mo_raise k_Mo_135 0 rfl rfl rfl rfl rfl (Rok.lt (by omega)) d_Mo_count_67 ?_
  exact V.iret X d_Mo_count_70 rfl rfl
