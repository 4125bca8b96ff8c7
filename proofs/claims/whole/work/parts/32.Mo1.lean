/-! ===== Model: reading a program ===== -/
def mo_thrown (S : MS) (v : Nat) (S' : MS) : Prop := v = (r_thrown S) ∧ S' = S
set_option maxHeartbeats 4000000 in
set_option maxRecDepth 100000 in
theorem c_Mo_thrown {l : Launch} {z : Zt} {b : Nat → Nat} {S : MS} {v : Nat} {S' : MS} (h : Nat) (hres : mo_thrown S v S') : XC l (Gz z) (h + 1) y_Mo_thrown b_Mo_thrown 1 (some .int) [.ref (b 0)] (mw z b S) (.inl (some (.int (nI v)))) (mw z b S') := by
  rw [mo_thrown] at hres
  refine XC.ofV (by decide +kernel) rfl ?_
  intro p e s m below meth c X hnm
  refine V.lvs (lv' := [(0, .ref (b 0))]) rfl ?_
  refine V.aload_n X d_Mo_thrown_0 rfl ?_
  refine g_Mo_thrown (x := (r_thrown S)) X rfl k_Mo_132 d_Mo_thrown_1 ?_
  obtain ⟨rfl, rfl⟩ := hres
  exact V.iret X d_Mo_thrown_4 rfl rfl
def mo_raise (p1 : Nat) (S : MS) (v : Nat) (S' : MS) : Prop := v = 0 ∧ S' = (w_thrown S p1)
set_option maxHeartbeats 4000000 in
set_option maxRecDepth 100000 in
theorem c_Mo_raise {l : Launch} {z : Zt} {b : Nat → Nat} {S : MS} {p1 : Nat} {v : Nat} {S' : MS} (h : Nat) (hres : mo_raise p1 S v S') : XC l (Gz z) (h + 1) y_Mo_raise b_Mo_raise 2 (some .int) [.ref (b 0), .int (nI p1)] (mw z b S) (.inl (some (.int (nI v)))) (mw z b S') := by
  rw [mo_raise] at hres
  refine XC.ofV (by decide +kernel) rfl ?_
  intro p e s m below meth c X hnm
  refine V.lvs (lv' := [(0, .ref (b 0)), (1, .int (nI p1))]) rfl ?_
  refine V.aload_n X d_Mo_raise_0 rfl ?_
  refine V.iload_n X d_Mo_raise_1 rfl ?_
  refine p_Mo_thrown X k_Mo_132 d_Mo_raise_2 ?_
  refine V.iconst (v := nI 0) X d_Mo_raise_5 (by decide +kernel) ?_
  obtain ⟨rfl, rfl⟩ := hres
  exact V.iret X d_Mo_raise_6 rfl rfl
def mo_fault (S : MS) (v : Int32) (S' : MS) : Prop := v = (r_fault S) ∧ S' = (w_thrown S 0)
set_option maxHeartbeats 4000000 in
set_option maxRecDepth 100000 in
theorem c_Mo_fault {l : Launch} {z : Zt} {b : Nat → Nat} {S : MS} {v : Int32} {S' : MS} (h : Nat) (hres : mo_fault S v S') : XC l (Gz z) (h + 1) y_Mo_fault b_Mo_fault 1 (some .int) [.ref (b 0)] (mw z b S) (.inl (some (.int v))) (mw z b S') := by
  rw [mo_fault] at hres
  refine XC.ofV (by decide +kernel) rfl ?_
  intro p e s m below meth c X hnm
  refine V.lvs (lv' := [(0, .ref (b 0))]) rfl ?_
  refine V.aload_n X d_Mo_fault_0 rfl ?_
  refine V.iconst (v := nI 0) X d_Mo_fault_1 (by decide +kernel) ?_
  refine p_Mo_thrown X k_Mo_132 d_Mo_fault_2 ?_
  refine V.aload_n X d_Mo_fault_5 rfl ?_
  refine g_Mo_fault (x := (r_fault S)) X (rw_fault_thrown _ _) k_Mo_44 d_Mo_fault_6 ?_
  obtain ⟨rfl, rfl⟩ := hres
  exact V.iret X d_Mo_fault_9 rfl rfl
def mo_blame (p1 : Nat) (S : MS) (S' : MS) : Prop := ((r_wrong S) = none ∧ (S' = (w_wrong S (some p1)))) ∨ (∃ t2, (r_wrong S) = some t2 ∧ (t2 < 2147483648 ∧ (S' = S)))
set_option maxHeartbeats 4000000 in
set_option maxRecDepth 100000 in
theorem c_Mo_blame {l : Launch} {z : Zt} {b : Nat → Nat} {S : MS} {p1 : Nat} {S' : MS} (h : Nat) (hres : mo_blame p1 S S') : XC l (Gz z) (h + 1) y_Mo_blame b_Mo_blame 2 none [.ref (b 0), .int (nI p1)] (mw z b S) (.inl none) (mw z b S') := by
  rw [mo_blame] at hres
  refine XC.ofV (by decide +kernel) rfl ?_
  intro p e s m below meth c X hnm
  refine V.lvs (lv' := [(0, .ref (b 0)), (1, .int (nI p1))]) rfl ?_
  refine V.aload_n X d_Mo_blame_0 rfl ?_
  refine g_Mo_wrong (x := (r_wrong S)) X rfl k_Mo_187 d_Mo_blame_1 ?_
  rcases hres with ⟨qt2, hres⟩ | ⟨t2, qt2, hres⟩
  · refine V.top (v' := .int (-1)) (by rw [qt2]; rfl) ?_
    refine V.if_ge (tgt := 12) X d_Mo_blame_4 (by decide) (fun h => absurd h (by decide)) (fun _ => ?_)
    refine V.aload_n X d_Mo_blame_7 rfl ?_
    refine V.iload_n X d_Mo_blame_8 rfl ?_
    refine V.top (v' := .int (fI (some p1))) rfl ?_
    refine p_Mo_wrong X k_Mo_187 d_Mo_blame_9 ?_
    subst hres
    exact V.vret X d_Mo_blame_12 rfl rfl
  · refine V.top (v' := .int (nI t2)) (by rw [qt2]; rfl) ?_
    obtain ⟨g3, hres⟩ := hres
    refine V.ifN_ge (tgt := 12) X d_Mo_blame_4 (by decide) (by omega) ?_
    subst hres
    exact V.vret X d_Mo_blame_12 rfl rfl
def mo_take (p1 : Nat) (S : MS) (v : Bool) (S' : MS) : Prop := ((r_wrong S) = none ∧ ((r_at S) < 155 ∧ (((r_kind S) (r_at S)) < 2147483648 ∧ (p1 < 2147483648 ∧ ((((r_kind S) (r_at S)) = p1 ∧ (v = true ∧ S' = (w_at S ((r_at S) + 1)))) ∨ (¬ ((r_kind S) (r_at S)) = p1 ∧ (v = false ∧ S' = S))))))) ∨ (∃ t2, (r_wrong S) = some t2 ∧ (t2 < 2147483648 ∧ (v = false ∧ S' = S)))
set_option maxHeartbeats 4000000 in
set_option maxRecDepth 100000 in
theorem c_Mo_take {l : Launch} {z : Zt} {b : Nat → Nat} {S : MS} {p1 : Nat} {v : Bool} {S' : MS} (h : Nat) (hres : mo_take p1 S v S') : XC l (Gz z) (h + 1) y_Mo_take b_Mo_take 2 (some .boolean) [.ref (b 0), .int (nI p1)] (mw z b S) (.inl (some (.int (bI v)))) (mw z b S') := by
  rw [mo_take] at hres
  refine XC.ofV (by decide +kernel) rfl ?_
  intro p e s m below meth c X hnm
  refine V.lvs (lv' := [(0, .ref (b 0)), (1, .int (nI p1))]) rfl ?_
  refine V.aload_n X d_Mo_take_0 rfl ?_
  refine g_Mo_wrong (x := (r_wrong S)) X rfl k_Mo_187 d_Mo_take_1 ?_
  rcases hres with ⟨qt2, hres⟩ | ⟨t2, qt2, hres⟩
  · refine V.top (v' := .int (-1)) (by rw [qt2]; rfl) ?_
    refine V.if_ge (tgt := 20) X d_Mo_take_4 (by decide) (fun h => absurd h (by decide)) (fun _ => ?_)
    refine V.aload_n X d_Mo_take_7 rfl ?_
    refine g_Mo_kind X k_Mo_13 d_Mo_take_8 ?_
    refine V.aload_n X d_Mo_take_11 rfl ?_
    refine g_Mo_at (x := (r_at S)) X rfl k_Mo_190 d_Mo_take_12 ?_
    obtain ⟨g3, hres⟩ := hres
    refine l_Mo_kind (x := ((r_kind S) (r_at S))) X g3 (congrFun rfl _) d_Mo_take_15 ?_
    refine V.iload_n X d_Mo_take_16 rfl ?_
    obtain ⟨g5, hres⟩ := hres
    obtain ⟨g6, hres⟩ := hres
    refine V.cmpN_eq (tgt := 22) X d_Mo_take_17 (by decide) (by omega) (by omega) (fun h17_4 => ?_) (fun h17_4 => ?_)
    · replace hres := or_t hres h17_4
      refine V.aload_n X d_Mo_take_22 rfl ?_
      refine V.dup X d_Mo_take_23 rfl ?_
      refine g_Mo_at (x := (r_at S)) X rfl k_Mo_190 d_Mo_take_24 ?_
      refine V.iconst (v := nI 1) X d_Mo_take_27 (by decide +kernel) ?_
      refine V.iadd X d_Mo_take_28 (nI_add _ _) ?_
      refine p_Mo_at X k_Mo_190 d_Mo_take_29 ?_
      refine V.iconst (v := nI 1) X d_Mo_take_32 (by decide +kernel) ?_
      obtain ⟨rfl, rfl⟩ := hres
      exact V.zret X d_Mo_take_33 (by first | exact Or.inl rfl | exact Or.inr rfl | (unfold bI; split; exact Or.inr rfl; exact Or.inl rfl)) rfl rfl
    · replace hres := or_f hres h17_4
      refine V.iconst (v := nI 0) X d_Mo_take_20 (by decide +kernel) ?_
      obtain ⟨rfl, rfl⟩ := hres
      exact V.zret X d_Mo_take_21 (by first | exact Or.inl rfl | exact Or.inr rfl | (unfold bI; split; exact Or.inr rfl; exact Or.inl rfl)) rfl rfl
  · refine V.top (v' := .int (nI t2)) (by rw [qt2]; rfl) ?_
    obtain ⟨g7, hres⟩ := hres
    refine V.ifN_ge (tgt := 20) X d_Mo_take_4 (by decide) (by omega) ?_
    refine V.iconst (v := nI 0) X d_Mo_take_20 (by decide +kernel) ?_
    obtain ⟨rfl, rfl⟩ := hres
    exact V.zret X d_Mo_take_21 (by first | exact Or.inl rfl | exact Or.inr rfl | (unfold bI; split; exact Or.inr rfl; exact Or.inl rfl)) rfl rfl
def mo_need (p1 : Nat) (S : MS) (S' : MS) : Prop := ∃ v1 S1, mo_take p1 S v1 S1 ∧ ((v1 = true ∧ (S' = S1)) ∨ (¬ v1 = true ∧ (∃ S3, mo_blame (r_at S1) S1 S3 ∧ (S' = S3))))
set_option maxHeartbeats 4000000 in
set_option maxRecDepth 100000 in
theorem c_Mo_need {l : Launch} {z : Zt} {b : Nat → Nat} {S : MS} {p1 : Nat} {S' : MS} (h : Nat) (hres : mo_need p1 S S') : XC l (Gz z) (h + 2) y_Mo_need b_Mo_need 2 none [.ref (b 0), .int (nI p1)] (mw z b S) (.inl none) (mw z b S') := by
  rw [mo_need] at hres
  refine XC.ofV (by decide +kernel) rfl ?_
  intro p e s m below meth c X hnm
  refine V.lvs (lv' := [(0, .ref (b 0)), (1, .int (nI p1))]) rfl ?_
  refine V.aload_n X d_Mo_need_0 rfl ?_
  refine V.iload_n X d_Mo_need_1 rfl ?_
  obtain ⟨v1, S1, x1, hres⟩ := hres
  refine V.callV1 X (c_Mo_take (h + 0) x1) Y_Mo_take k_Mo_193 0 rfl rfl rfl rfl rfl (Rok.lt (by omega)) d_Mo_need_2 ?_
  refine V.ifB_ne (tgt := 16) X d_Mo_need_5 (by decide) (fun h5_2 => ?_) (fun h5_2 => ?_)
  · replace hres := or_t hres h5_2
    subst hres
    exact V.vret X d_Mo_need_16 rfl rfl
  · replace hres := or_f hres (by rw [h5_2]; decide)
    refine V.aload_n X d_Mo_need_8 rfl ?_
    refine V.aload_n X d_Mo_need_9 rfl ?_
    refine g_Mo_at (x := (r_at S1)) X rfl k_Mo_190 d_Mo_need_10 ?_
    obtain ⟨S3, x3, hres⟩ := hres
    refine V.callV0 X (c_Mo_blame (h + 0) x3) Y_Mo_blame k_Mo_196 0 rfl rfl rfl rfl rfl (Rok.lt (by omega)) d_Mo_need_13 ?_
    subst hres
    exact V.vret X d_Mo_need_16 rfl rfl
def mo_declare_go (p1 : Nat) : Nat → Nat → Nat → MS → MS → Prop
  | 0, _, _, _, _ => False
  | n + 1, _, x2N, S, S' => x2N < 2147483648 ∧ ((r_symbols S) < 2147483648 ∧ (((r_symbols S) ≤ x2N ∧ (((r_wrong S) = none ∧ ((r_at S) < 155 ∧ ((r_symbols S) < 18 ∧ ((r_symbols S) < 18 ∧ ((r_symbols S) < 18 ∧ ((r_symbols S) < 18 ∧ (p1 < 2147483648 ∧ ((p1 = 3 ∧ (S' = (w_at (w_symbols (w_procedures (w_wants (w_home (w_sort (w_name S (va_up (r_name S) (r_symbols S) ((r_word S) (r_at S)))) (va_up (r_sort S) (r_symbols S) p1)) (va_up (r_home S) (r_symbols S) (r_block S))) (va_up (r_wants S) (r_symbols S) 0)) ((r_procedures S) + 1)) ((r_symbols S) + 1)) ((r_at S) + 1)))) ∨ (¬ p1 = 3 ∧ (S' = (w_at (w_symbols (w_variables (w_wants (w_home (w_sort (w_name S (va_up (r_name S) (r_symbols S) ((r_word S) (r_at S)))) (va_up (r_sort S) (r_symbols S) p1)) (va_up (r_home S) (r_symbols S) (r_block S))) (va_up (r_wants S) (r_symbols S) 0)) ((r_variables S) + 1)) ((r_symbols S) + 1)) ((r_at S) + 1)))))))))))) ∨ (∃ t5, (r_wrong S) = some t5 ∧ (t5 < 2147483648 ∧ (S' = S))))) ∨ (¬ (r_symbols S) ≤ x2N ∧ (x2N < 18 ∧ (((r_home S) x2N) < 2147483648 ∧ ((r_block S) < 2147483648 ∧ ((((r_home S) x2N) = (r_block S) ∧ (x2N < 18 ∧ ((r_at S) < 155 ∧ ((((r_name S) x2N) = ((r_word S) (r_at S)) ∧ (∃ S23, mo_blame (r_at S) S S23 ∧ (mo_declare_go p1 n 0 (x2N + 1) S23 S'))) ∨ (¬ ((r_name S) x2N) = ((r_word S) (r_at S)) ∧ (mo_declare_go p1 n 0 (x2N + 1) S S')))))) ∨ (¬ ((r_home S) x2N) = (r_block S) ∧ (mo_declare_go p1 n 0 (x2N + 1) S S')))))))))
def mo_declare (p1 : Nat) (S : MS) (S' : MS) : Prop := ((r_wrong S) = none ∧ ((r_at S) < 155 ∧ (((r_kind S) (r_at S)) < 2147483648 ∧ ((((r_kind S) (r_at S)) = 1 ∧ (p1 < 2147483648 ∧ ((p1 = 3 ∧ ((r_procedures S) < 2147483648 ∧ (((r_procedures S) = 6 ∧ (∃ S37, mo_blame (r_at S) S S37 ∧ (S' = S37))) ∨ (¬ (r_procedures S) = 6 ∧ (∃ n, mo_declare_go p1 n 0 0 S S'))))) ∨ (¬ p1 = 3 ∧ ((r_variables S) < 2147483648 ∧ (((r_variables S) = 12 ∧ (∃ S34, mo_blame (r_at S) S S34 ∧ (S' = S34))) ∨ (¬ (r_variables S) = 12 ∧ (∃ n, mo_declare_go p1 n 0 0 S S')))))))) ∨ (¬ ((r_kind S) (r_at S)) = 1 ∧ (∃ S29, mo_blame (r_at S) S S29 ∧ (S' = S29))))))) ∨ (∃ t25, (r_wrong S) = some t25 ∧ (t25 < 2147483648 ∧ (∃ S39, mo_blame (r_at S) S S39 ∧ (S' = S39))))
set_option maxHeartbeats 4000000 in
set_option maxRecDepth 100000 in
theorem c_Mo_declare {l : Launch} {z : Zt} {b : Nat → Nat} {S : MS} {p1 : Nat} {S' : MS} (h : Nat) (hres : mo_declare p1 S S') : XC l (Gz z) (h + 2) y_Mo_declare b_Mo_declare 3 none [.ref (b 0), .int (nI p1)] (mw z b S) (.inl none) (mw z b S') := by
  rw [mo_declare] at hres
  refine XC.ofV (by decide +kernel) rfl ?_
  intro p e s m below meth c X hnm
  have go : ∀ n : Nat, (∀ (x2N : Nat) (S : MS), mo_declare_go p1 n 0 x2N S S' → V p l e (Rm (h + 2)) s m ([.ref (b 0), .int (nI p1)] : List Value).toArray below meth c (Gz z) 3 0 0 (XE below (Gz z) (.inl none) (mw z b S') ([.ref (b 0), .int (nI p1)] : List Value).toArray s) (mw z b S) 57 [(0, .ref (b 0)), (1, .int (nI p1)), (2, .int (nI x2N))] []) := by
    intro n
    induction n with
    | zero =>
      skip
      · intro x2N S hres
        exact absurd hres (by simp only [mo_declare_go, not_false_eq_true])
    | succ n ih =>
      skip
      · intro x2N S hres
        rw [mo_declare_go] at hres
        refine V.iload_n X d_Mo_declare_57 rfl ?_
        refine V.aload_n X d_Mo_declare_58 rfl ?_
        refine g_Mo_symbols (x := (r_symbols S)) X rfl k_Mo_205 d_Mo_declare_59 ?_
        obtain ⟨g2, hres⟩ := hres
        obtain ⟨g3, hres⟩ := hres
        refine V.cmpN_ge (tgt := 111) X d_Mo_declare_62 (by decide) (by omega) (by omega) (fun h62_1 => ?_) (fun h62_1 => ?_)
        · replace hres := or_t hres h62_1
          refine V.aload_n X d_Mo_declare_111 rfl ?_
          refine g_Mo_wrong (x := (r_wrong S)) X rfl k_Mo_187 d_Mo_declare_112 ?_
          rcases hres with ⟨qt5, hres⟩ | ⟨t5, qt5, hres⟩
          · refine V.top (v' := .int (-1)) (by rw [qt5]; rfl) ?_
            refine V.if_lt (tgt := 119) X d_Mo_declare_115 (by decide) (fun _ => ?_) (fun h => absurd (by decide) h)
            refine V.aload_n X d_Mo_declare_119 rfl ?_
            refine g_Mo_name X k_Mo_48 d_Mo_declare_120 ?_
            refine V.aload_n X d_Mo_declare_123 rfl ?_
            refine g_Mo_symbols (x := (r_symbols S)) X rfl k_Mo_205 d_Mo_declare_124 ?_
            refine V.aload_n X d_Mo_declare_127 rfl ?_
            refine g_Mo_word X k_Mo_16 d_Mo_declare_128 ?_
            refine V.aload_n X d_Mo_declare_131 rfl ?_
            refine g_Mo_at (x := (r_at S)) X rfl k_Mo_190 d_Mo_declare_132 ?_
            obtain ⟨g6, hres⟩ := hres
            refine l_Mo_word (x := ((r_word S) (r_at S))) X g6 (congrFun rfl _) d_Mo_declare_135 ?_
            obtain ⟨g7, hres⟩ := hres
            refine s_Mo_name (g := (r_name S)) X g7 rfl d_Mo_declare_136 ?_
            refine V.aload_n X d_Mo_declare_137 rfl ?_
            refine g_Mo_sort X k_Mo_51 d_Mo_declare_138 ?_
            refine V.aload_n X d_Mo_declare_141 rfl ?_
            refine g_Mo_symbols (x := (r_symbols S)) X (rw_symbols_name _ _) k_Mo_205 d_Mo_declare_142 ?_
            refine V.iload_n X d_Mo_declare_145 rfl ?_
            obtain ⟨g8, hres⟩ := hres
            refine s_Mo_sort (g := (r_sort S)) X g8 (rw_sort_name _ _) d_Mo_declare_146 ?_
            refine V.aload_n X d_Mo_declare_147 rfl ?_
            refine g_Mo_home X k_Mo_54 d_Mo_declare_148 ?_
            refine V.aload_n X d_Mo_declare_151 rfl ?_
            refine g_Mo_symbols (x := (r_symbols S)) X (Eq.trans (rw_symbols_sort _ _) (rw_symbols_name _ _)) k_Mo_205 d_Mo_declare_152 ?_
            refine V.aload_n X d_Mo_declare_155 rfl ?_
            refine g_Mo_block (x := (r_block S)) X (Eq.trans (rw_block_sort _ _) (rw_block_name _ _)) k_Mo_208 d_Mo_declare_156 ?_
            obtain ⟨g9, hres⟩ := hres
            refine s_Mo_home (g := (r_home S)) X g9 (Eq.trans (rw_home_sort _ _) (rw_home_name _ _)) d_Mo_declare_159 ?_
            refine V.aload_n X d_Mo_declare_160 rfl ?_
            refine g_Mo_wants X k_Mo_60 d_Mo_declare_161 ?_
            refine V.aload_n X d_Mo_declare_164 rfl ?_
            refine g_Mo_symbols (x := (r_symbols S)) X (Eq.trans (rw_symbols_home _ _) (Eq.trans (rw_symbols_sort _ _) (rw_symbols_name _ _))) k_Mo_205 d_Mo_declare_165 ?_
            refine V.iconst (v := nI 0) X d_Mo_declare_168 (by decide +kernel) ?_
            obtain ⟨g10, hres⟩ := hres
            refine s_Mo_wants (g := (r_wants S)) X g10 (Eq.trans (rw_wants_home _ _) (Eq.trans (rw_wants_sort _ _) (rw_wants_name _ _))) d_Mo_declare_169 ?_
            refine V.iload_n X d_Mo_declare_170 rfl ?_
            refine V.iconst (v := nI 3) X d_Mo_declare_171 (by decide +kernel) ?_
            obtain ⟨g12, hres⟩ := hres
            refine V.cmpN_ne (tgt := 185) X d_Mo_declare_172 (by decide) (by omega) (by omega) (fun h172_11 => ?_) (fun h172_11 => ?_)
            · replace hres := or_f hres h172_11
              refine V.iload_n X d_Mo_declare_185 rfl ?_
              refine V.iconst (v := nI 3) X d_Mo_declare_186 (by decide +kernel) ?_
              refine V.cmpN_eq (tgt := 200) X d_Mo_declare_187 (by decide) (by omega) (by omega) (fun h => absurd h (by omega)) (fun _ => ?_)
              refine V.aload_n X d_Mo_declare_190 rfl ?_
              refine V.dup X d_Mo_declare_191 rfl ?_
              refine g_Mo_variables (x := (r_variables S)) X (Eq.trans (rw_variables_wants _ _) (Eq.trans (rw_variables_home _ _) (Eq.trans (rw_variables_sort _ _) (rw_variables_name _ _)))) k_Mo_202 d_Mo_declare_192 ?_
              refine V.iconst (v := nI 1) X d_Mo_declare_195 (by decide +kernel) ?_
              refine V.iadd X d_Mo_declare_196 (nI_add _ _) ?_
              refine p_Mo_variables X k_Mo_202 d_Mo_declare_197 ?_
              refine V.aload_n X d_Mo_declare_200 rfl ?_
              refine V.dup X d_Mo_declare_201 rfl ?_
              refine g_Mo_symbols (x := (r_symbols S)) X (Eq.trans (rw_symbols_variables _ _) (Eq.trans (rw_symbols_wants _ _) (Eq.trans (rw_symbols_home _ _) (Eq.trans (rw_symbols_sort _ _) (rw_symbols_name _ _))))) k_Mo_205 d_Mo_declare_202 ?_
              refine V.iconst (v := nI 1) X d_Mo_declare_205 (by decide +kernel) ?_
              refine V.iadd X d_Mo_declare_206 (nI_add _ _) ?_
              refine p_Mo_symbols X k_Mo_205 d_Mo_declare_207 ?_
              refine V.aload_n X d_Mo_declare_210 rfl ?_
              refine V.dup X d_Mo_declare_211 rfl ?_
              refine g_Mo_at (x := (r_at S)) X (Eq.trans (rw_at_symbols _ _) (Eq.trans (rw_at_variables _ _) (Eq.trans (rw_at_wants _ _) (Eq.trans (rw_at_home _ _) (Eq.trans (rw_at_sort _ _) (rw_at_name _ _)))))) k_Mo_190 d_Mo_declare_212 ?_
              refine V.iconst (v := nI 1) X d_Mo_declare_215 (by decide +kernel) ?_
              refine V.iadd X d_Mo_declare_216 (nI_add _ _) ?_
              refine p_Mo_at X k_Mo_190 d_Mo_declare_217 ?_
              subst hres
              exact V.vret X d_Mo_declare_220 rfl rfl
            · replace hres := or_t hres h172_11
              refine V.aload_n X d_Mo_declare_175 rfl ?_
              refine V.dup X d_Mo_declare_176 rfl ?_
              refine g_Mo_procedures (x := (r_procedures S)) X (Eq.trans (rw_procedures_wants _ _) (Eq.trans (rw_procedures_home _ _) (Eq.trans (rw_procedures_sort _ _) (rw_procedures_name _ _)))) k_Mo_199 d_Mo_declare_177 ?_
              refine V.iconst (v := nI 1) X d_Mo_declare_180 (by decide +kernel) ?_
              refine V.iadd X d_Mo_declare_181 (nI_add _ _) ?_
              refine p_Mo_procedures X k_Mo_199 d_Mo_declare_182 ?_
              refine V.iload_n X d_Mo_declare_185 rfl ?_
              refine V.iconst (v := nI 3) X d_Mo_declare_186 (by decide +kernel) ?_
              refine V.cmpN_eq (tgt := 200) X d_Mo_declare_187 (by decide) (by omega) (by omega) (fun _ => ?_) (fun h => absurd h (by omega))
              refine V.aload_n X d_Mo_declare_200 rfl ?_
              refine V.dup X d_Mo_declare_201 rfl ?_
              refine g_Mo_symbols (x := (r_symbols S)) X (Eq.trans (rw_symbols_procedures _ _) (Eq.trans (rw_symbols_wants _ _) (Eq.trans (rw_symbols_home _ _) (Eq.trans (rw_symbols_sort _ _) (rw_symbols_name _ _))))) k_Mo_205 d_Mo_declare_202 ?_
              refine V.iconst (v := nI 1) X d_Mo_declare_205 (by decide +kernel) ?_
              refine V.iadd X d_Mo_declare_206 (nI_add _ _) ?_
              refine p_Mo_symbols X k_Mo_205 d_Mo_declare_207 ?_
              refine V.aload_n X d_Mo_declare_210 rfl ?_
              refine V.dup X d_Mo_declare_211 rfl ?_
              refine g_Mo_at (x := (r_at S)) X (Eq.trans (rw_at_symbols _ _) (Eq.trans (rw_at_procedures _ _) (Eq.trans (rw_at_wants _ _) (Eq.trans (rw_at_home _ _) (Eq.trans (rw_at_sort _ _) (rw_at_name _ _)))))) k_Mo_190 d_Mo_declare_212 ?_
              refine V.iconst (v := nI 1) X d_Mo_declare_215 (by decide +kernel) ?_
              refine V.iadd X d_Mo_declare_216 (nI_add _ _) ?_
              refine p_Mo_at X k_Mo_190 d_Mo_declare_217 ?_
              subst hres
              exact V.vret X d_Mo_declare_220 rfl rfl
          · refine V.top (v' := .int (nI t5)) (by rw [qt5]; rfl) ?_
            obtain ⟨g15, hres⟩ := hres
            refine V.ifN_lt (tgt := 119) X d_Mo_declare_115 (by decide) (by omega) ?_
            subst hres
            exact V.vret X d_Mo_declare_118 rfl rfl
        · replace hres := or_f hres (Nat.not_le.mpr h62_1)
          refine V.aload_n X d_Mo_declare_65 rfl ?_
          refine g_Mo_home X k_Mo_54 d_Mo_declare_66 ?_
          refine V.iload_n X d_Mo_declare_69 rfl ?_
          obtain ⟨g16, hres⟩ := hres
          refine l_Mo_home (x := ((r_home S) x2N)) X g16 (congrFun rfl _) d_Mo_declare_70 ?_
          refine V.aload_n X d_Mo_declare_71 rfl ?_
          refine g_Mo_block (x := (r_block S)) X rfl k_Mo_208 d_Mo_declare_72 ?_
          obtain ⟨g18, hres⟩ := hres
          obtain ⟨g19, hres⟩ := hres
          refine V.cmpN_ne (tgt := 105) X d_Mo_declare_75 (by decide) (by omega) (by omega) (fun h75_17 => ?_) (fun h75_17 => ?_)
          · replace hres := or_f hres h75_17
            refine V.iinc (lv' := [(0, .ref (b 0)), (1, .int (nI p1)), (2, .int (nI (x2N + 1)))]) X d_Mo_declare_105 rfl (show _ + nI 1 = _ from nI_add _ 1) (by decide) rfl ?_
            refine V.goto (tgt := 57) X d_Mo_declare_108 (by decide) ?_
            refine V.lvs (lv' := [(0, .ref (b 0)), (1, .int (nI p1)), (2, .int (nI (x2N + 1)))]) rfl ?_
            exact ih _ S hres
          · replace hres := or_t hres h75_17
            refine V.aload_n X d_Mo_declare_78 rfl ?_
            refine g_Mo_name X k_Mo_48 d_Mo_declare_79 ?_
            refine V.iload_n X d_Mo_declare_82 rfl ?_
            obtain ⟨g20, hres⟩ := hres
            refine l_Mo_name (x := ((r_name S) x2N)) X g20 (congrFun rfl _) d_Mo_declare_83 ?_
            refine V.aload_n X d_Mo_declare_84 rfl ?_
            refine g_Mo_word X k_Mo_16 d_Mo_declare_85 ?_
            refine V.aload_n X d_Mo_declare_88 rfl ?_
            refine g_Mo_at (x := (r_at S)) X rfl k_Mo_190 d_Mo_declare_89 ?_
            obtain ⟨g21, hres⟩ := hres
            refine l_Mo_word (x := ((r_word S) (r_at S))) X g21 (congrFun rfl _) d_Mo_declare_92 ?_
            refine V.lcmp X d_Mo_declare_93 rfl ?_
            refine V.if_ne (tgt := 105) X d_Mo_declare_94 (by decide) (fun h94_22 => ?_) (fun h94_22 => ?_)
            · replace hres := or_f hres (fun q => h94_22 (lg_eq0.mpr q))
              refine V.iinc (lv' := [(0, .ref (b 0)), (1, .int (nI p1)), (2, .int (nI (x2N + 1)))]) X d_Mo_declare_105 rfl (show _ + nI 1 = _ from nI_add _ 1) (by decide) rfl ?_
              refine V.goto (tgt := 57) X d_Mo_declare_108 (by decide) ?_
              refine V.lvs (lv' := [(0, .ref (b 0)), (1, .int (nI p1)), (2, .int (nI (x2N + 1)))]) rfl ?_
              exact ih _ S hres
            · replace hres := or_t hres (lg_eq0.mp h94_22)
              refine V.aload_n X d_Mo_declare_97 rfl ?_
              refine V.aload_n X d_Mo_declare_98 rfl ?_
              refine g_Mo_at (x := (r_at S)) X rfl k_Mo_190 d_Mo_declare_99 ?_
              obtain ⟨S23, x23, hres⟩ := hres
              refine V.callV0 X (c_Mo_blame (h + 0) x23) Y_Mo_blame k_Mo_196 0 rfl rfl rfl rfl rfl (Rok.lt (by omega)) d_Mo_declare_102 ?_
              refine V.iinc (lv' := [(0, .ref (b 0)), (1, .int (nI p1)), (2, .int (nI (x2N + 1)))]) X d_Mo_declare_105 rfl (show _ + nI 1 = _ from nI_add _ 1) (by decide) rfl ?_
              refine V.goto (tgt := 57) X d_Mo_declare_108 (by decide) ?_
              refine V.lvs (lv' := [(0, .ref (b 0)), (1, .int (nI p1)), (2, .int (nI (x2N + 1)))]) rfl ?_
              exact ih _ S23 hres
  refine V.lvs (lv' := [(0, .ref (b 0)), (1, .int (nI p1))]) rfl ?_
  refine V.aload_n X d_Mo_declare_0 rfl ?_
  refine g_Mo_wrong (x := (r_wrong S)) X rfl k_Mo_187 d_Mo_declare_1 ?_
  rcases hres with ⟨qt25, hres⟩ | ⟨t25, qt25, hres⟩
  · refine V.top (v' := .int (-1)) (by rw [qt25]; rfl) ?_
    refine V.if_ge (tgt := 46) X d_Mo_declare_4 (by decide) (fun h => absurd h (by decide)) (fun _ => ?_)
    refine V.aload_n X d_Mo_declare_7 rfl ?_
    refine g_Mo_kind X k_Mo_13 d_Mo_declare_8 ?_
    refine V.aload_n X d_Mo_declare_11 rfl ?_
    refine g_Mo_at (x := (r_at S)) X rfl k_Mo_190 d_Mo_declare_12 ?_
    obtain ⟨g26, hres⟩ := hres
    refine l_Mo_kind (x := ((r_kind S) (r_at S))) X g26 (congrFun rfl _) d_Mo_declare_15 ?_
    refine V.iconst (v := nI 1) X d_Mo_declare_16 (by decide +kernel) ?_
    obtain ⟨g28, hres⟩ := hres
    refine V.cmpN_ne (tgt := 46) X d_Mo_declare_17 (by decide) (by omega) (by omega) (fun h17_27 => ?_) (fun h17_27 => ?_)
    · replace hres := or_f hres h17_27
      refine V.aload_n X d_Mo_declare_46 rfl ?_
      refine V.aload_n X d_Mo_declare_47 rfl ?_
      refine g_Mo_at (x := (r_at S)) X rfl k_Mo_190 d_Mo_declare_48 ?_
      obtain ⟨S29, x29, hres⟩ := hres
      refine V.callV0 X (c_Mo_blame (h + 0) x29) Y_Mo_blame k_Mo_196 0 rfl rfl rfl rfl rfl (Rok.lt (by omega)) d_Mo_declare_51 ?_
      subst hres
      exact V.vret X d_Mo_declare_54 rfl rfl
    · replace hres := or_t hres h17_27
      refine V.iload_n X d_Mo_declare_20 rfl ?_
      refine V.iconst (v := nI 3) X d_Mo_declare_21 (by decide +kernel) ?_
      obtain ⟨g31, hres⟩ := hres
      refine V.cmpN_ne (tgt := 37) X d_Mo_declare_22 (by decide) (by omega) (by omega) (fun h22_30 => ?_) (fun h22_30 => ?_)
      · replace hres := or_f hres h22_30
        refine V.aload_n X d_Mo_declare_37 rfl ?_
        refine g_Mo_variables (x := (r_variables S)) X rfl k_Mo_202 d_Mo_declare_38 ?_
        refine V.bipush (v := nI 12) X d_Mo_declare_41 (by decide +kernel) ?_
        obtain ⟨g33, hres⟩ := hres
        refine V.cmpN_ne (tgt := 55) X d_Mo_declare_43 (by decide) (by omega) (by omega) (fun h43_32 => ?_) (fun h43_32 => ?_)
        · replace hres := or_f hres h43_32
          refine V.iconst (v := nI 0) X d_Mo_declare_55 (by decide +kernel) ?_
          refine V.istore_n (lv' := [(0, .ref (b 0)), (1, .int (nI p1)), (2, .int (nI 0))]) X d_Mo_declare_56 (by decide) rfl ?_
          refine V.lvs (lv' := [(0, .ref (b 0)), (1, .int (nI p1)), (2, .int (nI 0))]) rfl ?_
          obtain ⟨n, hres⟩ := hres
          exact (go n) _ S hres
        · replace hres := or_t hres h43_32
          refine V.aload_n X d_Mo_declare_46 rfl ?_
          refine V.aload_n X d_Mo_declare_47 rfl ?_
          refine g_Mo_at (x := (r_at S)) X rfl k_Mo_190 d_Mo_declare_48 ?_
          obtain ⟨S34, x34, hres⟩ := hres
          refine V.callV0 X (c_Mo_blame (h + 0) x34) Y_Mo_blame k_Mo_196 0 rfl rfl rfl rfl rfl (Rok.lt (by omega)) d_Mo_declare_51 ?_
          subst hres
          exact V.vret X d_Mo_declare_54 rfl rfl
      · replace hres := or_t hres h22_30
        refine V.aload_n X d_Mo_declare_25 rfl ?_
        refine g_Mo_procedures (x := (r_procedures S)) X rfl k_Mo_199 d_Mo_declare_26 ?_
        refine V.bipush (v := nI 6) X d_Mo_declare_29 (by decide +kernel) ?_
        obtain ⟨g36, hres⟩ := hres
        refine V.cmpN_ne (tgt := 55) X d_Mo_declare_31 (by decide) (by omega) (by omega) (fun h31_35 => ?_) (fun h31_35 => ?_)
        · replace hres := or_f hres h31_35
          refine V.iconst (v := nI 0) X d_Mo_declare_55 (by decide +kernel) ?_
          refine V.istore_n (lv' := [(0, .ref (b 0)), (1, .int (nI p1)), (2, .int (nI 0))]) X d_Mo_declare_56 (by decide) rfl ?_
          refine V.lvs (lv' := [(0, .ref (b 0)), (1, .int (nI p1)), (2, .int (nI 0))]) rfl ?_
          obtain ⟨n, hres⟩ := hres
          exact (go n) _ S hres
        · replace hres := or_t hres h31_35
          refine V.goto (tgt := 46) X d_Mo_declare_34 (by decide) ?_
          refine V.aload_n X d_Mo_declare_46 rfl ?_
          refine V.aload_n X d_Mo_declare_47 rfl ?_
          refine g_Mo_at (x := (r_at S)) X rfl k_Mo_190 d_Mo_declare_48 ?_
          obtain ⟨S37, x37, hres⟩ := hres
          refine V.callV0 X (c_Mo_blame (h + 0) x37) Y_Mo_blame k_Mo_196 0 rfl rfl rfl rfl rfl (Rok.lt (by omega)) d_Mo_declare_51 ?_
          subst hres
          exact V.vret X d_Mo_declare_54 rfl rfl
  · refine V.top (v' := .int (nI t25)) (by rw [qt25]; rfl) ?_
    obtain ⟨g38, hres⟩ := hres
    refine V.ifN_ge (tgt := 46) X d_Mo_declare_4 (by decide) (by omega) ?_
    refine V.aload_n X d_Mo_declare_46 rfl ?_
    refine V.aload_n X d_Mo_declare_47 rfl ?_
    refine g_Mo_at (x := (r_at S)) X rfl k_Mo_190 d_Mo_declare_48 ?_
    obtain ⟨S39, x39, hres⟩ := hres
    refine V.callV0 X (c_Mo_blame (h + 0) x39) Y_Mo_blame k_Mo_196 0 rfl rfl rfl rfl rfl (Rok.lt (by omega)) d_Mo_declare_51 ?_
    subst hres
    exact V.vret X d_Mo_declare_54 rfl rfl
def mo_find_go (p1 : Nat) : Nat → Nat → (Option Nat) → Nat → Nat → MS → (Option Nat) → MS → Prop
  | 0, _, _, _, _, _, _, _ => False
  | n + 1, tag, x2O, x2N, x3N, S, v, S' => match tag with
    | 0 => (x2O = none ∧ (v = none ∧ S' = S)) ∨ (∃ t2, x2O = some t2 ∧ (t2 < 2147483648 ∧ (mo_find_go p1 n 1 none t2 0 S v S')))
    | 1 => x3N < 2147483648 ∧ ((r_symbols S) < 2147483648 ∧ (((r_symbols S) ≤ x3N ∧ (x2N < 8 ∧ (mo_find_go p1 n 0 ((r_around S) x2N) 0 0 S v S'))) ∨ (¬ (r_symbols S) ≤ x3N ∧ (x3N < 18 ∧ (((r_home S) x3N) < 2147483648 ∧ (x2N < 2147483648 ∧ ((((r_home S) x3N) = x2N ∧ (x3N < 18 ∧ (p1 < 155 ∧ ((((r_name S) x3N) = ((r_word S) p1) ∧ (v = (some x3N) ∧ S' = S)) ∨ (¬ ((r_name S) x3N) = ((r_word S) p1) ∧ (mo_find_go p1 n 1 none x2N (x3N + 1) S v S')))))) ∨ (¬ ((r_home S) x3N) = x2N ∧ (mo_find_go p1 n 1 none x2N (x3N + 1) S v S')))))))))
    | _ => False
def mo_find (p1 : Nat) (S : MS) (v : Option Nat) (S' : MS) : Prop := ∃ n, mo_find_go p1 n 0 (some (r_block S)) 0 0 S v S'
set_option maxHeartbeats 4000000 in
set_option maxRecDepth 100000 in
theorem c_Mo_find {l : Launch} {z : Zt} {b : Nat → Nat} {S : MS} {p1 : Nat} {v : Option Nat} {S' : MS} (h : Nat) (hres : mo_find p1 S v S') : XC l (Gz z) (h + 1) y_Mo_find b_Mo_find 4 (some .int) [.ref (b 0), .int (nI p1)] (mw z b S) (.inl (some (.int (fI v)))) (mw z b S') := by
  rw [mo_find] at hres
  refine XC.ofV (by decide +kernel) rfl ?_
  intro p e s m below meth c X hnm
  have go : ∀ n : Nat, (∀ (x2O : Option Nat) (S : MS), mo_find_go p1 n 0 x2O 0 0 S v S' → V p l e (Rm (h + 1)) s m ([.ref (b 0), .int (nI p1)] : List Value).toArray below meth c (Gz z) 4 0 0 (XE below (Gz z) (.inl (some (.int (fI v)))) (mw z b S') ([.ref (b 0), .int (nI p1)] : List Value).toArray s) (mw z b S) 5 [(0, .ref (b 0)), (1, .int (nI p1)), (2, .int (fI x2O))] []) ∧ (∀ (x2N : Nat) (x3N : Nat) (S : MS), mo_find_go p1 n 1 none x2N x3N S v S' → V p l e (Rm (h + 1)) s m ([.ref (b 0), .int (nI p1)] : List Value).toArray below meth c (Gz z) 4 0 0 (XE below (Gz z) (.inl (some (.int (fI v)))) (mw z b S') ([.ref (b 0), .int (nI p1)] : List Value).toArray s) (mw z b S) 11 [(0, .ref (b 0)), (1, .int (nI p1)), (2, .int (nI x2N)), (3, .int (nI x3N))] []) := by
    intro n
    induction n with
    | zero =>
      refine ⟨?_, ?_⟩
      · intro x2O S hres
        exact absurd hres (by simp only [mo_find_go, not_false_eq_true])
      · intro x2N x3N S hres
        exact absurd hres (by simp only [mo_find_go, not_false_eq_true])
    | succ n ih =>
      refine ⟨?_, ?_⟩
      · intro x2O S hres
        rw [mo_find_go] at hres
        try dsimp only at hres
        refine V.iload_n X d_Mo_find_5 rfl ?_
        rcases hres with ⟨qt2, hres⟩ | ⟨t2, qt2, hres⟩
        · refine V.top (v' := .int (-1)) (by rw [qt2]; rfl) ?_
          refine V.if_lt (tgt := 63) X d_Mo_find_6 (by decide) (fun _ => ?_) (fun h => absurd (by decide) h)
          refine V.iconst (v := -1) X d_Mo_find_63 (by decide +kernel) ?_
          obtain ⟨rfl, rfl⟩ := hres
          exact V.iret X d_Mo_find_64 rfl rfl
        · refine V.top (v' := .int (nI t2)) (by rw [qt2]; rfl) ?_
          obtain ⟨g3, hres⟩ := hres
          refine V.lvs (lv' := [(0, .ref (b 0)), (1, .int (nI p1)), (2, .int (nI t2))]) (by rw [qt2]; rfl) ?_
          refine V.ifN_lt (tgt := 63) X d_Mo_find_6 (by decide) (by omega) ?_
          refine V.iconst (v := nI 0) X d_Mo_find_9 (by decide +kernel) ?_
          refine V.istore_n (lv' := [(0, .ref (b 0)), (1, .int (nI p1)), (2, .int (nI t2)), (3, .int (nI 0))]) X d_Mo_find_10 (by decide) rfl ?_
          refine V.lvs (lv' := [(0, .ref (b 0)), (1, .int (nI p1)), (2, .int (nI t2)), (3, .int (nI 0))]) rfl ?_
          exact ih.2 _ _ S hres
      · intro x2N x3N S hres
        rw [mo_find_go] at hres
        try dsimp only at hres
        refine V.iload_n X d_Mo_find_11 rfl ?_
        refine V.aload_n X d_Mo_find_12 rfl ?_
        refine g_Mo_symbols (x := (r_symbols S)) X rfl k_Mo_205 d_Mo_find_13 ?_
        obtain ⟨g5, hres⟩ := hres
        obtain ⟨g6, hres⟩ := hres
        refine V.cmpN_ge (tgt := 53) X d_Mo_find_16 (by decide) (by omega) (by omega) (fun h16_4 => ?_) (fun h16_4 => ?_)
        · replace hres := or_t hres h16_4
          refine V.aload_n X d_Mo_find_53 rfl ?_
          refine g_Mo_around X k_Mo_63 d_Mo_find_54 ?_
          refine V.iload_n X d_Mo_find_57 rfl ?_
          obtain ⟨g7, hres⟩ := hres
          refine l_Mo_around (x := ((r_around S) x2N)) X g7 (congrFun rfl _) d_Mo_find_58 ?_
          refine V.istore_n (lv' := [(0, .ref (b 0)), (1, .int (nI p1)), (2, .int (fI ((r_around S) x2N))), (3, .int (nI x3N))]) X d_Mo_find_59 (by decide) rfl ?_
          refine V.goto (tgt := 5) X d_Mo_find_60 (by decide) ?_
          refine V.pick [0, 1, 2] rfl ?_
          refine V.lvs (lv' := [(0, .ref (b 0)), (1, .int (nI p1)), (2, .int (fI ((r_around S) x2N)))]) rfl ?_
          exact ih.1 _ S hres
        · replace hres := or_f hres (Nat.not_le.mpr h16_4)
          refine V.aload_n X d_Mo_find_19 rfl ?_
          refine g_Mo_home X k_Mo_54 d_Mo_find_20 ?_
          refine V.iload_n X d_Mo_find_23 rfl ?_
          obtain ⟨g8, hres⟩ := hres
          refine l_Mo_home (x := ((r_home S) x3N)) X g8 (congrFun rfl _) d_Mo_find_24 ?_
          refine V.iload_n X d_Mo_find_25 rfl ?_
          obtain ⟨g10, hres⟩ := hres
          obtain ⟨g11, hres⟩ := hres
          refine V.cmpN_ne (tgt := 47) X d_Mo_find_26 (by decide) (by omega) (by omega) (fun h26_9 => ?_) (fun h26_9 => ?_)
          · replace hres := or_f hres h26_9
            refine V.iinc (lv' := [(0, .ref (b 0)), (1, .int (nI p1)), (2, .int (nI x2N)), (3, .int (nI (x3N + 1)))]) X d_Mo_find_47 rfl (show _ + nI 1 = _ from nI_add _ 1) (by decide) rfl ?_
            refine V.goto (tgt := 11) X d_Mo_find_50 (by decide) ?_
            refine V.lvs (lv' := [(0, .ref (b 0)), (1, .int (nI p1)), (2, .int (nI x2N)), (3, .int (nI (x3N + 1)))]) rfl ?_
            exact ih.2 _ _ S hres
          · replace hres := or_t hres h26_9
            refine V.aload_n X d_Mo_find_29 rfl ?_
            refine g_Mo_name X k_Mo_48 d_Mo_find_30 ?_
            refine V.iload_n X d_Mo_find_33 rfl ?_
            obtain ⟨g12, hres⟩ := hres
            refine l_Mo_name (x := ((r_name S) x3N)) X g12 (congrFun rfl _) d_Mo_find_34 ?_
            refine V.aload_n X d_Mo_find_35 rfl ?_
            refine g_Mo_word X k_Mo_16 d_Mo_find_36 ?_
            refine V.iload_n X d_Mo_find_39 rfl ?_
            obtain ⟨g13, hres⟩ := hres
            refine l_Mo_word (x := ((r_word S) p1)) X g13 (congrFun rfl _) d_Mo_find_40 ?_
            refine V.lcmp X d_Mo_find_41 rfl ?_
            refine V.if_ne (tgt := 47) X d_Mo_find_42 (by decide) (fun h42_14 => ?_) (fun h42_14 => ?_)
            · replace hres := or_f hres (fun q => h42_14 (lg_eq0.mpr q))
              refine V.iinc (lv' := [(0, .ref (b 0)), (1, .int (nI p1)), (2, .int (nI x2N)), (3, .int (nI (x3N + 1)))]) X d_Mo_find_47 rfl (show _ + nI 1 = _ from nI_add _ 1) (by decide) rfl ?_
              refine V.goto (tgt := 11) X d_Mo_find_50 (by decide) ?_
              refine V.lvs (lv' := [(0, .ref (b 0)), (1, .int (nI p1)), (2, .int (nI x2N)), (3, .int (nI (x3N + 1)))]) rfl ?_
              exact ih.2 _ _ S hres
            · replace hres := or_t hres (lg_eq0.mp h42_14)
              refine V.iload_n X d_Mo_find_45 rfl ?_
              obtain ⟨rfl, rfl⟩ := hres
              exact V.iret X d_Mo_find_46 rfl rfl
  refine V.lvs (lv' := [(0, .ref (b 0)), (1, .int (nI p1))]) rfl ?_
  refine V.aload_n X d_Mo_find_0 rfl ?_
  refine g_Mo_block (x := (r_block S)) X rfl k_Mo_208 d_Mo_find_1 ?_
  refine V.istore_n (lv' := [(0, .ref (b 0)), (1, .int (nI p1)), (2, .int (nI (r_block S)))]) X d_Mo_find_4 (by decide) rfl ?_
  refine V.lvs (lv' := [(0, .ref (b 0)), (1, .int (nI p1)), (2, .int (fI (some (r_block S))))]) rfl ?_
  obtain ⟨n, hres⟩ := hres
  exact (go n).1 _ S hres
def mo_blockDepth_go : Nat → Nat → Nat → (Option Nat) → MS → Nat → MS → Prop
  | 0, _, _, _, _, _, _ => False
  | n + 1, _, x1N, x2O, S, v, S' => (x2O = none ∧ (v = x1N ∧ S' = S)) ∨ (∃ t2, x2O = some t2 ∧ (t2 < 2147483648 ∧ (t2 < 8 ∧ (mo_blockDepth_go n 0 (x1N + 1) ((r_around S) t2) S v S'))))
def mo_blockDepth (S : MS) (v : Nat) (S' : MS) : Prop := ∃ n, mo_blockDepth_go n 0 0 (some (r_block S)) S v S'
set_option maxHeartbeats 4000000 in
set_option maxRecDepth 100000 in
theorem c_Mo_blockDepth {l : Launch} {z : Zt} {b : Nat → Nat} {S : MS} {v : Nat} {S' : MS} (h : Nat) (hres : mo_blockDepth S v S') : XC l (Gz z) (h + 1) y_Mo_blockDepth b_Mo_blockDepth 3 (some .int) [.ref (b 0)] (mw z b S) (.inl (some (.int (nI v)))) (mw z b S') := by
  rw [mo_blockDepth] at hres
  refine XC.ofV (by decide +kernel) rfl ?_
  intro p e s m below meth c X hnm
  have go : ∀ n : Nat, (∀ (x1N : Nat) (x2O : Option Nat) (S : MS), mo_blockDepth_go n 0 x1N x2O S v S' → V p l e (Rm (h + 1)) s m ([.ref (b 0)] : List Value).toArray below meth c (Gz z) 3 0 0 (XE below (Gz z) (.inl (some (.int (nI v)))) (mw z b S') ([.ref (b 0)] : List Value).toArray s) (mw z b S) 7 [(0, .ref (b 0)), (1, .int (nI x1N)), (2, .int (fI x2O))] []) := by
    intro n
    induction n with
    | zero =>
      skip
      · intro x1N x2O S hres
        exact absurd hres (by simp only [mo_blockDepth_go, not_false_eq_true])
    | succ n ih =>
      skip
      · intro x1N x2O S hres
        rw [mo_blockDepth_go] at hres
        refine V.iload_n X d_Mo_blockDepth_7 rfl ?_
        rcases hres with ⟨qt2, hres⟩ | ⟨t2, qt2, hres⟩
        · refine V.top (v' := .int (-1)) (by rw [qt2]; rfl) ?_
          refine V.if_lt (tgt := 24) X d_Mo_blockDepth_8 (by decide) (fun _ => ?_) (fun h => absurd (by decide) h)
          refine V.iload_n X d_Mo_blockDepth_24 rfl ?_
          obtain ⟨rfl, rfl⟩ := hres
          exact V.iret X d_Mo_blockDepth_25 rfl rfl
        · refine V.top (v' := .int (nI t2)) (by rw [qt2]; rfl) ?_
          obtain ⟨g3, hres⟩ := hres
          refine V.lvs (lv' := [(0, .ref (b 0)), (1, .int (nI x1N)), (2, .int (nI t2))]) (by rw [qt2]; rfl) ?_
          refine V.ifN_lt (tgt := 24) X d_Mo_blockDepth_8 (by decide) (by omega) ?_
          refine V.iinc (lv' := [(0, .ref (b 0)), (1, .int (nI (x1N + 1))), (2, .int (nI t2))]) X d_Mo_blockDepth_11 rfl (show _ + nI 1 = _ from nI_add _ 1) (by decide) rfl ?_
          refine V.aload_n X d_Mo_blockDepth_14 rfl ?_
          refine g_Mo_around X k_Mo_63 d_Mo_blockDepth_15 ?_
          refine V.iload_n X d_Mo_blockDepth_18 rfl ?_
          obtain ⟨g4, hres⟩ := hres
          refine l_Mo_around (x := ((r_around S) t2)) X g4 (congrFun rfl _) d_Mo_blockDepth_19 ?_
          refine V.istore_n (lv' := [(0, .ref (b 0)), (1, .int (nI (x1N + 1))), (2, .int (fI ((r_around S) t2)))]) X d_Mo_blockDepth_20 (by decide) rfl ?_
          refine V.goto (tgt := 7) X d_Mo_blockDepth_21 (by decide) ?_
          refine V.lvs (lv' := [(0, .ref (b 0)), (1, .int (nI (x1N + 1))), (2, .int (fI ((r_around S) t2)))]) rfl ?_
          exact ih _ _ S hres
  refine V.lvs (lv' := [(0, .ref (b 0))]) rfl ?_
  refine V.iconst (v := nI 0) X d_Mo_blockDepth_0 (by decide +kernel) ?_
  refine V.istore_n (lv' := [(0, .ref (b 0)), (1, .int (nI 0))]) X d_Mo_blockDepth_1 (by decide) rfl ?_
  refine V.aload_n X d_Mo_blockDepth_2 rfl ?_
  refine g_Mo_block (x := (r_block S)) X rfl k_Mo_208 d_Mo_blockDepth_3 ?_
  refine V.istore_n (lv' := [(0, .ref (b 0)), (1, .int (nI 0)), (2, .int (nI (r_block S)))]) X d_Mo_blockDepth_6 (by decide) rfl ?_
  refine V.lvs (lv' := [(0, .ref (b 0)), (1, .int (nI 0)), (2, .int (fI (some (r_block S))))]) rfl ?_
  obtain ⟨n, hres⟩ := hres
  exact (go n) _ _ S hres
def mo_enter (p1 : Option Nat) (S : MS) (S' : MS) : Prop := (r_blocks S) < 8 ∧ (S' = (w_around (w_blocks (w_block S (r_blocks S)) ((r_blocks S) + 1)) (va_up (r_around S) (r_blocks S) p1)))
set_option maxHeartbeats 4000000 in
set_option maxRecDepth 100000 in
theorem c_Mo_enter {l : Launch} {z : Zt} {b : Nat → Nat} {S : MS} {p1 : Option Nat} {S' : MS} (h : Nat) (hres : mo_enter p1 S S') : XC l (Gz z) (h + 1) y_Mo_enter b_Mo_enter 2 none [.ref (b 0), .int (fI p1)] (mw z b S) (.inl none) (mw z b S') := by
  rw [mo_enter] at hres
  refine XC.ofV (by decide +kernel) rfl ?_
  intro p e s m below meth c X hnm
  refine V.lvs (lv' := [(0, .ref (b 0)), (1, .int (fI p1))]) rfl ?_
  refine V.aload_n X d_Mo_enter_0 rfl ?_
  refine V.aload_n X d_Mo_enter_1 rfl ?_
  refine g_Mo_blocks (x := (r_blocks S)) X rfl k_Mo_211 d_Mo_enter_2 ?_
  refine p_Mo_block X k_Mo_208 d_Mo_enter_5 ?_
  refine V.aload_n X d_Mo_enter_8 rfl ?_
  refine V.dup X d_Mo_enter_9 rfl ?_
  refine g_Mo_blocks (x := (r_blocks S)) X (rw_blocks_block _ _) k_Mo_211 d_Mo_enter_10 ?_
  refine V.iconst (v := nI 1) X d_Mo_enter_13 (by decide +kernel) ?_
  refine V.iadd X d_Mo_enter_14 (nI_add _ _) ?_
  refine p_Mo_blocks X k_Mo_211 d_Mo_enter_15 ?_
  refine V.aload_n X d_Mo_enter_18 rfl ?_
  refine g_Mo_around X k_Mo_63 d_Mo_enter_19 ?_
  refine V.aload_n X d_Mo_enter_22 rfl ?_
  refine g_Mo_block (x := (r_blocks S)) X (Eq.trans (rw_block_blocks _ _) (rw_block_block _ _)) k_Mo_208 d_Mo_enter_23 ?_
  refine V.iload_n X d_Mo_enter_26 rfl ?_
  obtain ⟨g1, hres⟩ := hres
  refine s_Mo_around (g := (r_around S)) X g1 (Eq.trans (rw_around_blocks _ _) (rw_around_block _ _)) d_Mo_enter_27 ?_
  subst hres
  exact V.vret X d_Mo_enter_28 rfl rfl
def mo_parameter (p1 : Nat) (S : MS) (S' : MS) : Prop := ∃ v1 S1, mo_take 64 S v1 S1 ∧ (p1 < 18 ∧ (((r_wants S1) p1) < 2147483648 ∧ ((((r_wants S1) p1) = 3 ∧ (∃ S12, mo_blame (r_at S1) S1 S12 ∧ ((v1 = true ∧ (∃ S17, mo_declare 2 S12 S17 ∧ (p1 < 18 ∧ (p1 < 18 ∧ (S' = (w_wants S17 (va_up (r_wants S17) p1 (((r_wants S17) p1) + 1)))))))) ∨ (¬ v1 = true ∧ (∃ S14, mo_declare 1 S12 S14 ∧ (p1 < 18 ∧ (p1 < 18 ∧ (S' = (w_wants S14 (va_up (r_wants S14) p1 (((r_wants S14) p1) + 1))))))))))) ∨ (¬ ((r_wants S1) p1) = 3 ∧ ((v1 = true ∧ (∃ S9, mo_declare 2 S1 S9 ∧ (p1 < 18 ∧ (p1 < 18 ∧ (S' = (w_wants S9 (va_up (r_wants S9) p1 (((r_wants S9) p1) + 1)))))))) ∨ (¬ v1 = true ∧ (∃ S6, mo_declare 1 S1 S6 ∧ (p1 < 18 ∧ (p1 < 18 ∧ (S' = (w_wants S6 (va_up (r_wants S6) p1 (((r_wants S6) p1) + 1)))))))))))))
set_option maxHeartbeats 4000000 in
set_option maxRecDepth 100000 in
theorem c_Mo_parameter {l : Launch} {z : Zt} {b : Nat → Nat} {S : MS} {p1 : Nat} {S' : MS} (h : Nat) (hres : mo_parameter p1 S S') : XC l (Gz z) (h + 3) y_Mo_parameter b_Mo_parameter 3 none [.ref (b 0), .int (nI p1)] (mw z b S) (.inl none) (mw z b S') := by
  rw [mo_parameter] at hres
  refine XC.ofV (by decide +kernel) rfl ?_
  intro p e s m below meth c X hnm
  refine V.lvs (lv' := [(0, .ref (b 0)), (1, .int (nI p1))]) rfl ?_
  refine V.aload_n X d_Mo_parameter_0 rfl ?_
  refine V.bipush (v := nI 64) X d_Mo_parameter_1 (by decide +kernel) ?_
  obtain ⟨v1, S1, x1, hres⟩ := hres
  refine V.callV1 X (c_Mo_take (h + 1) x1) Y_Mo_take k_Mo_193 0 rfl rfl rfl rfl rfl (Rok.lt (by omega)) d_Mo_parameter_3 ?_
  refine V.istore_n (lv' := [(0, .ref (b 0)), (1, .int (nI p1)), (2, .int (bI v1))]) X d_Mo_parameter_6 (by decide) rfl ?_
  refine V.aload_n X d_Mo_parameter_7 rfl ?_
  refine g_Mo_wants X k_Mo_60 d_Mo_parameter_8 ?_
  refine V.iload_n X d_Mo_parameter_11 rfl ?_
  obtain ⟨g2, hres⟩ := hres
  refine l_Mo_wants (x := ((r_wants S1) p1)) X g2 (congrFun rfl _) d_Mo_parameter_12 ?_
  refine V.iconst (v := nI 3) X d_Mo_parameter_13 (by decide +kernel) ?_
  obtain ⟨g4, hres⟩ := hres
  refine V.cmpN_ne (tgt := 25) X d_Mo_parameter_14 (by decide) (by omega) (by omega) (fun h14_3 => ?_) (fun h14_3 => ?_)
  · replace hres := or_f hres h14_3
    refine V.aload_n X d_Mo_parameter_25 rfl ?_
    refine V.iload_n X d_Mo_parameter_26 rfl ?_
    refine V.ifB_eq (tgt := 34) X d_Mo_parameter_27 (by decide) (fun h27_5 => ?_) (fun h27_5 => ?_)
    · replace hres := or_f hres (by rw [h27_5]; decide)
      refine V.iconst (v := nI 1) X d_Mo_parameter_34 (by decide +kernel) ?_
      obtain ⟨S6, x6, hres⟩ := hres
      refine V.callV0 X (c_Mo_declare (h + 0) x6) Y_Mo_declare k_Mo_214 0 rfl rfl rfl rfl rfl (Rok.lt (by omega)) d_Mo_parameter_35 ?_
      refine V.aload_n X d_Mo_parameter_38 rfl ?_
      refine g_Mo_wants X k_Mo_60 d_Mo_parameter_39 ?_
      refine V.iload_n X d_Mo_parameter_42 rfl ?_
      refine V.dup2 X d_Mo_parameter_43 rfl rfl ?_
      obtain ⟨g7, hres⟩ := hres
      refine l_Mo_wants (x := ((r_wants S6) p1)) X g7 (congrFun rfl _) d_Mo_parameter_44 ?_
      refine V.iconst (v := nI 1) X d_Mo_parameter_45 (by decide +kernel) ?_
      refine V.iadd X d_Mo_parameter_46 (nI_add _ _) ?_
      obtain ⟨g8, hres⟩ := hres
      refine s_Mo_wants (g := (r_wants S6)) X g8 rfl d_Mo_parameter_47 ?_
      subst hres
      exact V.vret X d_Mo_parameter_48 rfl rfl
    · replace hres := or_t hres h27_5
      refine V.iconst (v := nI 2) X d_Mo_parameter_30 (by decide +kernel) ?_
      refine V.goto (tgt := 35) X d_Mo_parameter_31 (by decide) ?_
      obtain ⟨S9, x9, hres⟩ := hres
      refine V.callV0 X (c_Mo_declare (h + 0) x9) Y_Mo_declare k_Mo_214 0 rfl rfl rfl rfl rfl (Rok.lt (by omega)) d_Mo_parameter_35 ?_
      refine V.aload_n X d_Mo_parameter_38 rfl ?_
      refine g_Mo_wants X k_Mo_60 d_Mo_parameter_39 ?_
      refine V.iload_n X d_Mo_parameter_42 rfl ?_
      refine V.dup2 X d_Mo_parameter_43 rfl rfl ?_
      obtain ⟨g10, hres⟩ := hres
      refine l_Mo_wants (x := ((r_wants S9) p1)) X g10 (congrFun rfl _) d_Mo_parameter_44 ?_
      refine V.iconst (v := nI 1) X d_Mo_parameter_45 (by decide +kernel) ?_
      refine V.iadd X d_Mo_parameter_46 (nI_add _ _) ?_
      obtain ⟨g11, hres⟩ := hres
      refine s_Mo_wants (g := (r_wants S9)) X g11 rfl d_Mo_parameter_47 ?_
      subst hres
      exact V.vret X d_Mo_parameter_48 rfl rfl
  · replace hres := or_t hres h14_3
    refine V.aload_n X d_Mo_parameter_17 rfl ?_
    refine V.aload_n X d_Mo_parameter_18 rfl ?_
    refine g_Mo_at (x := (r_at S1)) X rfl k_Mo_190 d_Mo_parameter_19 ?_
    obtain ⟨S12, x12, hres⟩ := hres
    refine V.callV0 X (c_Mo_blame (h + 1) x12) Y_Mo_blame k_Mo_196 0 rfl rfl rfl rfl rfl (Rok.lt (by omega)) d_Mo_parameter_22 ?_
    refine V.aload_n X d_Mo_parameter_25 rfl ?_
    refine V.iload_n X d_Mo_parameter_26 rfl ?_
    refine V.ifB_eq (tgt := 34) X d_Mo_parameter_27 (by decide) (fun h27_13 => ?_) (fun h27_13 => ?_)
    · replace hres := or_f hres (by rw [h27_13]; decide)
      refine V.iconst (v := nI 1) X d_Mo_parameter_34 (by decide +kernel) ?_
      obtain ⟨S14, x14, hres⟩ := hres
      refine V.callV0 X (c_Mo_declare (h + 0) x14) Y_Mo_declare k_Mo_214 0 rfl rfl rfl rfl rfl (Rok.lt (by omega)) d_Mo_parameter_35 ?_
      refine V.aload_n X d_Mo_parameter_38 rfl ?_
      refine g_Mo_wants X k_Mo_60 d_Mo_parameter_39 ?_
      refine V.iload_n X d_Mo_parameter_42 rfl ?_
      refine V.dup2 X d_Mo_parameter_43 rfl rfl ?_
      obtain ⟨g15, hres⟩ := hres
      refine l_Mo_wants (x := ((r_wants S14) p1)) X g15 (congrFun rfl _) d_Mo_parameter_44 ?_
      refine V.iconst (v := nI 1) X d_Mo_parameter_45 (by decide +kernel) ?_
      refine V.iadd X d_Mo_parameter_46 (nI_add _ _) ?_
      obtain ⟨g16, hres⟩ := hres
      refine s_Mo_wants (g := (r_wants S14)) X g16 rfl d_Mo_parameter_47 ?_
      subst hres
      exact V.vret X d_Mo_parameter_48 rfl rfl
    · replace hres := or_t hres h27_13
      refine V.iconst (v := nI 2) X d_Mo_parameter_30 (by decide +kernel) ?_
      refine V.goto (tgt := 35) X d_Mo_parameter_31 (by decide) ?_
      obtain ⟨S17, x17, hres⟩ := hres
      refine V.callV0 X (c_Mo_declare (h + 0) x17) Y_Mo_declare k_Mo_214 0 rfl rfl rfl rfl rfl (Rok.lt (by omega)) d_Mo_parameter_35 ?_
      refine V.aload_n X d_Mo_parameter_38 rfl ?_
      refine g_Mo_wants X k_Mo_60 d_Mo_parameter_39 ?_
      refine V.iload_n X d_Mo_parameter_42 rfl ?_
      refine V.dup2 X d_Mo_parameter_43 rfl rfl ?_
      obtain ⟨g18, hres⟩ := hres
      refine l_Mo_wants (x := ((r_wants S17) p1)) X g18 (congrFun rfl _) d_Mo_parameter_44 ?_
      refine V.iconst (v := nI 1) X d_Mo_parameter_45 (by decide +kernel) ?_
      refine V.iadd X d_Mo_parameter_46 (nI_add _ _) ?_
      obtain ⟨g19, hres⟩ := hres
      refine s_Mo_wants (g := (r_wants S17)) X g19 rfl d_Mo_parameter_47 ?_
      subst hres
      exact V.vret X d_Mo_parameter_48 rfl rfl
def mo_beginBlock_go : Nat → Nat → MS → MS → Prop
  | 0, _, _, _ => False
  | n + 1, _, S, S' => ∃ v1 S1, mo_take 44 S v1 S1 ∧ ((v1 = true ∧ (∃ S4, mo_declare 0 S1 S4 ∧ (mo_beginBlock_go n 0  S4 S'))) ∨ (¬ v1 = true ∧ (∃ S3, mo_need 59 S1 S3 ∧ (S' = S3))))
def mo_beginBlock (S : MS) (S' : MS) : Prop := ∃ v5 S5, mo_take 3 S v5 S5 ∧ ((v5 = true ∧ (∃ S7, mo_declare 0 S5 S7 ∧ (∃ n, mo_beginBlock_go n 0  S7 S'))) ∨ (¬ v5 = true ∧ (S' = S5)))
set_option maxHeartbeats 4000000 in
set_option maxRecDepth 100000 in
theorem c_Mo_beginBlock {l : Launch} {z : Zt} {b : Nat → Nat} {S : MS} {S' : MS} (h : Nat) (hres : mo_beginBlock S S') : XC l (Gz z) (h + 3) y_Mo_beginBlock b_Mo_beginBlock 1 none [.ref (b 0)] (mw z b S) (.inl none) (mw z b S') := by
  rw [mo_beginBlock] at hres
  refine XC.ofV (by decide +kernel) rfl ?_
  intro p e s m below meth c X hnm
  have go : ∀ n : Nat, (∀ (S : MS), mo_beginBlock_go n 0  S S' → V p l e (Rm (h + 3)) s m ([.ref (b 0)] : List Value).toArray below meth c (Gz z) 1 0 0 (XE below (Gz z) (.inl none) (mw z b S') ([.ref (b 0)] : List Value).toArray s) (mw z b S) 14 [(0, .ref (b 0))] []) := by
    intro n
    induction n with
    | zero =>
      skip
      · intro S hres
        exact absurd hres (by simp only [mo_beginBlock_go, not_false_eq_true])
    | succ n ih =>
      skip
      · intro S hres
        rw [mo_beginBlock_go] at hres
        refine V.aload_n X d_Mo_beginBlock_14 rfl ?_
        refine V.bipush (v := nI 44) X d_Mo_beginBlock_15 (by decide +kernel) ?_
        obtain ⟨v1, S1, x1, hres⟩ := hres
        refine V.callV1 X (c_Mo_take (h + 1) x1) Y_Mo_take k_Mo_193 0 rfl rfl rfl rfl rfl (Rok.lt (by omega)) d_Mo_beginBlock_17 ?_
        refine V.ifB_eq (tgt := 31) X d_Mo_beginBlock_20 (by decide) (fun h20_2 => ?_) (fun h20_2 => ?_)
        · replace hres := or_f hres (by rw [h20_2]; decide)
          refine V.aload_n X d_Mo_beginBlock_31 rfl ?_
          refine V.bipush (v := nI 59) X d_Mo_beginBlock_32 (by decide +kernel) ?_
          obtain ⟨S3, x3, hres⟩ := hres
          refine V.callV0 X (c_Mo_need (h + 0) x3) Y_Mo_need k_Mo_227 0 rfl rfl rfl rfl rfl (Rok.lt (by omega)) d_Mo_beginBlock_34 ?_
          subst hres
          exact V.vret X d_Mo_beginBlock_37 rfl rfl
        · replace hres := or_t hres h20_2
          refine V.aload_n X d_Mo_beginBlock_23 rfl ?_
          refine V.iconst (v := nI 0) X d_Mo_beginBlock_24 (by decide +kernel) ?_
          obtain ⟨S4, x4, hres⟩ := hres
          refine V.callV0 X (c_Mo_declare (h + 0) x4) Y_Mo_declare k_Mo_214 0 rfl rfl rfl rfl rfl (Rok.lt (by omega)) d_Mo_beginBlock_25 ?_
          refine V.goto (tgt := 14) X d_Mo_beginBlock_28 (by decide) ?_
          refine V.lvs (lv' := [(0, .ref (b 0))]) rfl ?_
          exact ih  S4 hres
  refine V.lvs (lv' := [(0, .ref (b 0))]) rfl ?_
  refine V.aload_n X d_Mo_beginBlock_0 rfl ?_
  refine V.iconst (v := nI 3) X d_Mo_beginBlock_1 (by decide +kernel) ?_
  obtain ⟨v5, S5, x5, hres⟩ := hres
  refine V.callV1 X (c_Mo_take (h + 1) x5) Y_Mo_take k_Mo_193 0 rfl rfl rfl rfl rfl (Rok.lt (by omega)) d_Mo_beginBlock_2 ?_
  refine V.ifB_ne (tgt := 9) X d_Mo_beginBlock_5 (by decide) (fun h5_6 => ?_) (fun h5_6 => ?_)
  · replace hres := or_t hres h5_6
    refine V.aload_n X d_Mo_beginBlock_9 rfl ?_
    refine V.iconst (v := nI 0) X d_Mo_beginBlock_10 (by decide +kernel) ?_
    obtain ⟨S7, x7, hres⟩ := hres
    refine V.callV0 X (c_Mo_declare (h + 0) x7) Y_Mo_declare k_Mo_214 0 rfl rfl rfl rfl rfl (Rok.lt (by omega)) d_Mo_beginBlock_11 ?_
    refine V.lvs (lv' := [(0, .ref (b 0))]) rfl ?_
    obtain ⟨n, hres⟩ := hres
    exact (go n)  S7 hres
  · replace hres := or_f hres (by rw [h5_6]; decide)
    subst hres
    exact V.vret X d_Mo_beginBlock_8 rfl rfl
def mo_procedure_go : Nat → Nat → Nat → MS → MS → Prop
  | 0, _, _, _, _ => False
  | n + 1, tag, x1N, S, S' => match tag with
    | 0 => ∃ v1 S1, mo_take 44 S v1 S1 ∧ ((v1 = true ∧ (∃ S4, mo_parameter x1N S1 S4 ∧ (mo_procedure_go n 0 x1N S4 S'))) ∨ (¬ v1 = true ∧ (∃ S3, mo_need 41 S1 S3 ∧ (mo_procedure_go n 1 0 S3 S'))))
    | 1 => ∃ S5, mo_need 59 S S5 ∧ (∃ S6, mo_beginBlock S5 S6 ∧ (S' = S6))
    | _ => False
def mo_procedure (S : MS) (S' : MS) : Prop := ∃ v7 S7, mo_blockDepth S v7 S7 ∧ (v7 < 2147483648 ∧ ((v7 = 4 ∧ (1 ≤ (r_at S7) ∧ (∃ S20, mo_blame ((r_at S7) - 1) S7 S20 ∧ (S' = S20)))) ∨ (¬ v7 = 4 ∧ (∃ S10, mo_declare 3 S7 S10 ∧ (((r_wrong S10) = none ∧ (∃ S13, mo_enter (some (r_block S10)) S10 S13 ∧ ((r_symbols S7) < 18 ∧ (∃ v15 S15, mo_take 40 (w_own S13 (va_up (r_own S13) (r_symbols S7) (r_block S13))) v15 S15 ∧ ((v15 = true ∧ (∃ S17, mo_parameter (r_symbols S7) S15 S17 ∧ (∃ n, mo_procedure_go n 0 (r_symbols S7) S17 S'))) ∨ (¬ v15 = true ∧ (∃ n, mo_procedure_go n 1 0 S15 S'))))))) ∨ (∃ t12, (r_wrong S10) = some t12 ∧ (t12 < 2147483648 ∧ (S' = S10))))))))
set_option maxHeartbeats 4000000 in
set_option maxRecDepth 100000 in
theorem c_Mo_procedure {l : Launch} {z : Zt} {b : Nat → Nat} {S : MS} {S' : MS} (h : Nat) (hres : mo_procedure S S') : XC l (Gz z) (h + 4) y_Mo_procedure b_Mo_procedure 2 none [.ref (b 0)] (mw z b S) (.inl none) (mw z b S') := by
  rw [mo_procedure] at hres
  refine XC.ofV (by decide +kernel) rfl ?_
  intro p e s m below meth c X hnm
  have go : ∀ n : Nat, (∀ (x1N : Nat) (S : MS), mo_procedure_go n 0 x1N S S' → V p l e (Rm (h + 4)) s m ([.ref (b 0)] : List Value).toArray below meth c (Gz z) 2 0 0 (XE below (Gz z) (.inl none) (mw z b S') ([.ref (b 0)] : List Value).toArray s) (mw z b S) 69 [(0, .ref (b 0)), (1, .int (nI x1N))] []) ∧ (∀ (S : MS), mo_procedure_go n 1 0 S S' → V p l e (Rm (h + 4)) s m ([.ref (b 0)] : List Value).toArray below meth c (Gz z) 2 0 0 (XE below (Gz z) (.inl none) (mw z b S') ([.ref (b 0)] : List Value).toArray s) (mw z b S) 92 [(0, .ref (b 0))] []) := by
    intro n
    induction n with
    | zero =>
      refine ⟨?_, ?_⟩
      · intro x1N S hres
        exact absurd hres (by simp only [mo_procedure_go, not_false_eq_true])
      · intro S hres
        exact absurd hres (by simp only [mo_procedure_go, not_false_eq_true])
    | succ n ih =>
      refine ⟨?_, ?_⟩
      · intro x1N S hres
        rw [mo_procedure_go] at hres
        try dsimp only at hres
        refine V.aload_n X d_Mo_procedure_69 rfl ?_
        refine V.bipush (v := nI 44) X d_Mo_procedure_70 (by decide +kernel) ?_
        obtain ⟨v1, S1, x1, hres⟩ := hres
        refine V.callV1 X (c_Mo_take (h + 2) x1) Y_Mo_take k_Mo_193 0 rfl rfl rfl rfl rfl (Rok.lt (by omega)) d_Mo_procedure_72 ?_
        refine V.ifB_eq (tgt := 86) X d_Mo_procedure_75 (by decide) (fun h75_2 => ?_) (fun h75_2 => ?_)
        · replace hres := or_f hres (by rw [h75_2]; decide)
          refine V.aload_n X d_Mo_procedure_86 rfl ?_
          refine V.bipush (v := nI 41) X d_Mo_procedure_87 (by decide +kernel) ?_
          obtain ⟨S3, x3, hres⟩ := hres
          refine V.callV0 X (c_Mo_need (h + 1) x3) Y_Mo_need k_Mo_227 0 rfl rfl rfl rfl rfl (Rok.lt (by omega)) d_Mo_procedure_89 ?_
          refine V.pick [0] rfl ?_
          refine V.lvs (lv' := [(0, .ref (b 0))]) rfl ?_
          exact ih.2  S3 hres
        · replace hres := or_t hres h75_2
          refine V.aload_n X d_Mo_procedure_78 rfl ?_
          refine V.iload_n X d_Mo_procedure_79 rfl ?_
          obtain ⟨S4, x4, hres⟩ := hres
          refine V.callV0 X (c_Mo_parameter (h + 0) x4) Y_Mo_parameter k_Mo_224 0 rfl rfl rfl rfl rfl (Rok.lt (by omega)) d_Mo_procedure_80 ?_
          refine V.goto (tgt := 69) X d_Mo_procedure_83 (by decide) ?_
          refine V.lvs (lv' := [(0, .ref (b 0)), (1, .int (nI x1N))]) rfl ?_
          exact ih.1 _ S4 hres
      · intro S hres
        rw [mo_procedure_go] at hres
        try dsimp only at hres
        refine V.aload_n X d_Mo_procedure_92 rfl ?_
        refine V.bipush (v := nI 59) X d_Mo_procedure_93 (by decide +kernel) ?_
        obtain ⟨S5, x5, hres⟩ := hres
        refine V.callV0 X (c_Mo_need (h + 1) x5) Y_Mo_need k_Mo_227 0 rfl rfl rfl rfl rfl (Rok.lt (by omega)) d_Mo_procedure_95 ?_
        refine V.aload_n X d_Mo_procedure_98 rfl ?_
        obtain ⟨S6, x6, hres⟩ := hres
        refine V.callV0 X (c_Mo_beginBlock (h + 0) x6) Y_Mo_beginBlock k_Mo_230 0 rfl rfl rfl rfl rfl (Rok.lt (by omega)) d_Mo_procedure_99 ?_
        subst hres
        exact V.vret X d_Mo_procedure_102 rfl rfl
  refine V.lvs (lv' := [(0, .ref (b 0))]) rfl ?_
  refine V.aload_n X d_Mo_procedure_0 rfl ?_
  obtain ⟨v7, S7, x7, hres⟩ := hres
  refine V.callV1 X (c_Mo_blockDepth (h + 2) x7) Y_Mo_blockDepth k_Mo_217 0 rfl rfl rfl rfl rfl (Rok.lt (by omega)) d_Mo_procedure_1 ?_
  refine V.iconst (v := nI 4) X d_Mo_procedure_4 (by decide +kernel) ?_
  obtain ⟨g9, hres⟩ := hres
  refine V.cmpN_ne (tgt := 19) X d_Mo_procedure_5 (by decide) (by omega) (by omega) (fun h5_8 => ?_) (fun h5_8 => ?_)
  · replace hres := or_f hres h5_8
    refine V.aload_n X d_Mo_procedure_19 rfl ?_
    refine g_Mo_symbols (x := (r_symbols S7)) X rfl k_Mo_205 d_Mo_procedure_20 ?_
    refine V.istore_n (lv' := [(0, .ref (b 0)), (1, .int (nI (r_symbols S7)))]) X d_Mo_procedure_23 (by decide) rfl ?_
    refine V.aload_n X d_Mo_procedure_24 rfl ?_
    refine V.iconst (v := nI 3) X d_Mo_procedure_25 (by decide +kernel) ?_
    obtain ⟨S10, x10, hres⟩ := hres
    refine V.callV0 X (c_Mo_declare (h + 1) x10) Y_Mo_declare k_Mo_214 0 rfl rfl rfl rfl rfl (Rok.lt (by omega)) d_Mo_procedure_26 ?_
    refine V.aload_n X d_Mo_procedure_29 rfl ?_
    refine g_Mo_wrong (x := (r_wrong S10)) X rfl k_Mo_187 d_Mo_procedure_30 ?_
    rcases hres with ⟨qt12, hres⟩ | ⟨t12, qt12, hres⟩
    · refine V.top (v' := .int (-1)) (by rw [qt12]; rfl) ?_
      refine V.if_lt (tgt := 37) X d_Mo_procedure_33 (by decide) (fun _ => ?_) (fun h => absurd (by decide) h)
      refine V.aload_n X d_Mo_procedure_37 rfl ?_
      refine V.aload_n X d_Mo_procedure_38 rfl ?_
      refine g_Mo_block (x := (r_block S10)) X rfl k_Mo_208 d_Mo_procedure_39 ?_
      obtain ⟨S13, x13, hres⟩ := hres
      refine V.callV0 X (c_Mo_enter (h + 2) x13) Y_Mo_enter k_Mo_221 0 rfl rfl rfl rfl rfl (Rok.lt (by omega)) d_Mo_procedure_42 ?_
      refine V.aload_n X d_Mo_procedure_45 rfl ?_
      refine g_Mo_own X k_Mo_57 d_Mo_procedure_46 ?_
      refine V.iload_n X d_Mo_procedure_49 rfl ?_
      refine V.aload_n X d_Mo_procedure_50 rfl ?_
      refine g_Mo_block (x := (r_block S13)) X rfl k_Mo_208 d_Mo_procedure_51 ?_
      obtain ⟨g14, hres⟩ := hres
      refine s_Mo_own (g := (r_own S13)) X g14 rfl d_Mo_procedure_54 ?_
      refine V.aload_n X d_Mo_procedure_55 rfl ?_
      refine V.bipush (v := nI 40) X d_Mo_procedure_56 (by decide +kernel) ?_
      obtain ⟨v15, S15, x15, hres⟩ := hres
      refine V.callV1 X (c_Mo_take (h + 2) x15) Y_Mo_take k_Mo_193 0 rfl rfl rfl rfl rfl (Rok.lt (by omega)) d_Mo_procedure_58 ?_
      refine V.ifB_eq (tgt := 92) X d_Mo_procedure_61 (by decide) (fun h61_16 => ?_) (fun h61_16 => ?_)
      · replace hres := or_f hres (by rw [h61_16]; decide)
        refine V.pick [0] rfl ?_
        refine V.lvs (lv' := [(0, .ref (b 0))]) rfl ?_
        obtain ⟨n, hres⟩ := hres
        exact (go n).2  S15 hres
      · replace hres := or_t hres h61_16
        refine V.aload_n X d_Mo_procedure_64 rfl ?_
        refine V.iload_n X d_Mo_procedure_65 rfl ?_
        obtain ⟨S17, x17, hres⟩ := hres
        refine V.callV0 X (c_Mo_parameter (h + 0) x17) Y_Mo_parameter k_Mo_224 0 rfl rfl rfl rfl rfl (Rok.lt (by omega)) d_Mo_procedure_66 ?_
        refine V.lvs (lv' := [(0, .ref (b 0)), (1, .int (nI (r_symbols S7)))]) rfl ?_
        obtain ⟨n, hres⟩ := hres
        exact (go n).1 _ S17 hres
    · refine V.top (v' := .int (nI t12)) (by rw [qt12]; rfl) ?_
      obtain ⟨g18, hres⟩ := hres
      refine V.ifN_lt (tgt := 37) X d_Mo_procedure_33 (by decide) (by omega) ?_
      subst hres
      exact V.vret X d_Mo_procedure_36 rfl rfl
  · replace hres := or_t hres h5_8
    refine V.aload_n X d_Mo_procedure_8 rfl ?_
    refine V.aload_n X d_Mo_procedure_9 rfl ?_
    refine g_Mo_at (x := (r_at S7)) X rfl k_Mo_190 d_Mo_procedure_10 ?_
    refine V.iconst (v := nI 1) X d_Mo_procedure_13 (by decide +kernel) ?_
    obtain ⟨g19, hres⟩ := hres
    refine V.isub X d_Mo_procedure_14 (pk_sub g19) ?_
    obtain ⟨S20, x20, hres⟩ := hres
    refine V.callV0 X (c_Mo_blame (h + 2) x20) Y_Mo_blame k_Mo_196 0 rfl rfl rfl rfl rfl (Rok.lt (by omega)) d_Mo_procedure_15 ?_
    subst hres
    exact V.vret X d_Mo_procedure_18 rfl rfl
def mo_factor (S : MS) (S' : MS) : Prop := ∃ v1 S1, mo_take 2 S v1 S1 ∧ ((v1 = true ∧ (S' = S1)) ∨ (¬ v1 = true ∧ (((r_wrong S1) = none ∧ ((r_at S1) < 155 ∧ (((r_kind S1) (r_at S1)) < 2147483648 ∧ ((((r_kind S1) (r_at S1)) = 1 ∧ (∃ v10 S10, mo_find (r_at S1) S1 v10 S10 ∧ ((v10 = none ∧ (∃ S13, mo_blame (r_at S10) S10 S13 ∧ (S' = S13))) ∨ (∃ t12, v10 = some t12 ∧ (t12 < 2147483648 ∧ (t12 < 18 ∧ (((r_sort S10) t12) < 2147483648 ∧ ((((r_sort S10) t12) = 3 ∧ (∃ S19, mo_blame (r_at S10) S10 S19 ∧ (S' = S19))) ∨ (¬ ((r_sort S10) t12) = 3 ∧ ((r_at S10) < 155 ∧ (S' = (w_at (w_means S10 (va_up (r_means S10) (r_at S10) t12)) ((r_at S10) + 1))))))))))))) ∨ (¬ ((r_kind S1) (r_at S1)) = 1 ∧ (∃ S9, mo_blame (r_at S1) S1 S9 ∧ (S' = S9))))))) ∨ (∃ t4, (r_wrong S1) = some t4 ∧ (t4 < 2147483648 ∧ (S' = S1))))))
set_option maxHeartbeats 4000000 in
set_option maxRecDepth 100000 in
theorem c_Mo_factor {l : Launch} {z : Zt} {b : Nat → Nat} {S : MS} {S' : MS} (h : Nat) (hres : mo_factor S S') : XC l (Gz z) (h + 2) y_Mo_factor b_Mo_factor 2 none [.ref (b 0)] (mw z b S) (.inl none) (mw z b S') := by
  rw [mo_factor] at hres
  refine XC.ofV (by decide +kernel) rfl ?_
  intro p e s m below meth c X hnm
  refine V.lvs (lv' := [(0, .ref (b 0))]) rfl ?_
  refine V.aload_n X d_Mo_factor_0 rfl ?_
  refine V.iconst (v := nI 2) X d_Mo_factor_1 (by decide +kernel) ?_
  obtain ⟨v1, S1, x1, hres⟩ := hres
  refine V.callV1 X (c_Mo_take (h + 0) x1) Y_Mo_take k_Mo_193 0 rfl rfl rfl rfl rfl (Rok.lt (by omega)) d_Mo_factor_2 ?_
  refine V.ifB_eq (tgt := 9) X d_Mo_factor_5 (by decide) (fun h5_2 => ?_) (fun h5_2 => ?_)
  · replace hres := or_f hres (by rw [h5_2]; decide)
    refine V.aload_n X d_Mo_factor_9 rfl ?_
    refine g_Mo_wrong (x := (r_wrong S1)) X rfl k_Mo_187 d_Mo_factor_10 ?_
    rcases hres with ⟨qt4, hres⟩ | ⟨t4, qt4, hres⟩
    · refine V.top (v' := .int (-1)) (by rw [qt4]; rfl) ?_
      refine V.if_lt (tgt := 17) X d_Mo_factor_13 (by decide) (fun _ => ?_) (fun h => absurd (by decide) h)
      refine V.aload_n X d_Mo_factor_17 rfl ?_
      refine g_Mo_kind X k_Mo_13 d_Mo_factor_18 ?_
      refine V.aload_n X d_Mo_factor_21 rfl ?_
      refine g_Mo_at (x := (r_at S1)) X rfl k_Mo_190 d_Mo_factor_22 ?_
      obtain ⟨g5, hres⟩ := hres
      refine l_Mo_kind (x := ((r_kind S1) (r_at S1))) X g5 (congrFun rfl _) d_Mo_factor_25 ?_
      refine V.iconst (v := nI 1) X d_Mo_factor_26 (by decide +kernel) ?_
      obtain ⟨g7, hres⟩ := hres
      refine V.cmpN_ne (tgt := 41) X d_Mo_factor_27 (by decide) (by omega) (by omega) (fun h27_6 => ?_) (fun h27_6 => ?_)
      · replace hres := or_f hres h27_6
        refine V.iconst (v := -1) X d_Mo_factor_41 (by decide +kernel) ?_
        refine V.istore_n (lv' := [(0, .ref (b 0)), (1, .int (-1))]) X d_Mo_factor_42 (by decide) rfl ?_
        refine V.iload_n X d_Mo_factor_43 rfl ?_
        refine V.top (v' := .int (-1)) rfl ?_
        refine V.if_lt (tgt := 57) X d_Mo_factor_44 (by decide) (fun _ => ?_) (fun h => absurd (by decide) h)
        refine V.aload_n X d_Mo_factor_57 rfl ?_
        refine V.aload_n X d_Mo_factor_58 rfl ?_
        refine g_Mo_at (x := (r_at S1)) X rfl k_Mo_190 d_Mo_factor_59 ?_
        obtain ⟨S9, x9, hres⟩ := hres
        refine V.callV0 X (c_Mo_blame (h + 0) x9) Y_Mo_blame k_Mo_196 0 rfl rfl rfl rfl rfl (Rok.lt (by omega)) d_Mo_factor_62 ?_
        subst hres
        exact V.vret X d_Mo_factor_65 rfl rfl
      · replace hres := or_t hres h27_6
        refine V.aload_n X d_Mo_factor_30 rfl ?_
        refine V.aload_n X d_Mo_factor_31 rfl ?_
        refine g_Mo_at (x := (r_at S1)) X rfl k_Mo_190 d_Mo_factor_32 ?_
        obtain ⟨v10, S10, x10, hres⟩ := hres
        refine V.callV1 X (c_Mo_find (h + 0) x10) Y_Mo_find k_Mo_233 0 rfl rfl rfl rfl rfl (Rok.lt (by omega)) d_Mo_factor_35 ?_
        refine V.goto (tgt := 42) X d_Mo_factor_38 (by decide) ?_
        refine V.istore_n (lv' := [(0, .ref (b 0)), (1, .int (fI v10))]) X d_Mo_factor_42 (by decide) rfl ?_
        refine V.iload_n X d_Mo_factor_43 rfl ?_
        rcases hres with ⟨qt12, hres⟩ | ⟨t12, qt12, hres⟩
        · refine V.top (v' := .int (-1)) (by rw [qt12]; rfl) ?_
          refine V.if_lt (tgt := 57) X d_Mo_factor_44 (by decide) (fun _ => ?_) (fun h => absurd (by decide) h)
          refine V.aload_n X d_Mo_factor_57 rfl ?_
          refine V.aload_n X d_Mo_factor_58 rfl ?_
          refine g_Mo_at (x := (r_at S10)) X rfl k_Mo_190 d_Mo_factor_59 ?_
          obtain ⟨S13, x13, hres⟩ := hres
          refine V.callV0 X (c_Mo_blame (h + 0) x13) Y_Mo_blame k_Mo_196 0 rfl rfl rfl rfl rfl (Rok.lt (by omega)) d_Mo_factor_62 ?_
          subst hres
          exact V.vret X d_Mo_factor_65 rfl rfl
        · refine V.top (v' := .int (nI t12)) (by rw [qt12]; rfl) ?_
          obtain ⟨g14, hres⟩ := hres
          refine V.lvs (lv' := [(0, .ref (b 0)), (1, .int (nI t12))]) (by rw [qt12]; rfl) ?_
          refine V.ifN_lt (tgt := 57) X d_Mo_factor_44 (by decide) (by omega) ?_
          refine V.aload_n X d_Mo_factor_47 rfl ?_
          refine g_Mo_sort X k_Mo_51 d_Mo_factor_48 ?_
          refine V.iload_n X d_Mo_factor_51 rfl ?_
          obtain ⟨g15, hres⟩ := hres
          refine l_Mo_sort (x := ((r_sort S10) t12)) X g15 (congrFun rfl _) d_Mo_factor_52 ?_
          refine V.iconst (v := nI 3) X d_Mo_factor_53 (by decide +kernel) ?_
          obtain ⟨g17, hres⟩ := hres
          refine V.cmpN_ne (tgt := 66) X d_Mo_factor_54 (by decide) (by omega) (by omega) (fun h54_16 => ?_) (fun h54_16 => ?_)
          · replace hres := or_f hres h54_16
            refine V.aload_n X d_Mo_factor_66 rfl ?_
            refine g_Mo_means X k_Mo_26 d_Mo_factor_67 ?_
            refine V.aload_n X d_Mo_factor_70 rfl ?_
            refine g_Mo_at (x := (r_at S10)) X rfl k_Mo_190 d_Mo_factor_71 ?_
            refine V.iload_n X d_Mo_factor_74 rfl ?_
            obtain ⟨g18, hres⟩ := hres
            refine s_Mo_means (g := (r_means S10)) X g18 rfl d_Mo_factor_75 ?_
            refine V.aload_n X d_Mo_factor_76 rfl ?_
            refine V.dup X d_Mo_factor_77 rfl ?_
            refine g_Mo_at (x := (r_at S10)) X (rw_at_means _ _) k_Mo_190 d_Mo_factor_78 ?_
            refine V.iconst (v := nI 1) X d_Mo_factor_81 (by decide +kernel) ?_
            refine V.iadd X d_Mo_factor_82 (nI_add _ _) ?_
            refine p_Mo_at X k_Mo_190 d_Mo_factor_83 ?_
            subst hres
            exact V.vret X d_Mo_factor_86 rfl rfl
          · replace hres := or_t hres h54_16
            refine V.aload_n X d_Mo_factor_57 rfl ?_
            refine V.aload_n X d_Mo_factor_58 rfl ?_
            refine g_Mo_at (x := (r_at S10)) X rfl k_Mo_190 d_Mo_factor_59 ?_
            obtain ⟨S19, x19, hres⟩ := hres
            refine V.callV0 X (c_Mo_blame (h + 0) x19) Y_Mo_blame k_Mo_196 0 rfl rfl rfl rfl rfl (Rok.lt (by omega)) d_Mo_factor_62 ?_
            subst hres
            exact V.vret X d_Mo_factor_65 rfl rfl
    · refine V.top (v' := .int (nI t4)) (by rw [qt4]; rfl) ?_
      obtain ⟨g20, hres⟩ := hres
      refine V.ifN_lt (tgt := 17) X d_Mo_factor_13 (by decide) (by omega) ?_
      subst hres
      exact V.vret X d_Mo_factor_16 rfl rfl
  · replace hres := or_t hres h5_2
    subst hres
    exact V.vret X d_Mo_factor_8 rfl rfl
def mo_expression_go : Nat → Nat → Nat → MS → MS → Prop
  | 0, _, _, _, _ => False
  | n + 1, tag, x1N, S, S' => match tag with
    | 0 => ((r_wrong S) = none ∧ ((r_at S) < 155 ∧ (((r_kind S) (r_at S)) < 2147483648 ∧ ((((r_kind S) (r_at S)) = 40 ∧ (x1N < 2147483648 ∧ ((x1N = 8 ∧ (∃ S12, mo_blame (r_at S) S S12 ∧ (∃ v13 S13, mo_take 40 S12 v13 S13 ∧ (∃ v14 S14, mo_take 45 S13 v14 S14 ∧ (mo_expression_go n 0 (x1N + 1) S14 S'))))) ∨ (¬ x1N = 8 ∧ (∃ v10 S10, mo_take 40 S v10 S10 ∧ (∃ v11 S11, mo_take 45 S10 v11 S11 ∧ (mo_expression_go n 0 (x1N + 1) S11 S'))))))) ∨ (¬ ((r_kind S) (r_at S)) = 40 ∧ (∃ S7, mo_factor S S7 ∧ (mo_expression_go n 1 x1N S7 S'))))))) ∨ (∃ t3, (r_wrong S) = some t3 ∧ (t3 < 2147483648 ∧ (x1N < 2147483648 ∧ ((x1N = 0 ∧ (S' = S)) ∨ (¬ x1N = 0 ∧ (∃ S18, mo_blame (r_at S) S S18 ∧ (S' = S18)))))))
    | 1 => x1N < 2147483648 ∧ ((x1N = 0 ∧ (((r_wrong S) = none ∧ ((r_at S) < 155 ∧ (((r_kind S) (r_at S)) < 2147483648 ∧ (((isOp ((r_kind S) (r_at S))) = true ∧ (mo_expression_go n 0 x1N (w_at S ((r_at S) + 1)) S')) ∨ (¬ (isOp ((r_kind S) (r_at S))) = true ∧ (S' = S)))))) ∨ (∃ t22, (r_wrong S) = some t22 ∧ (t22 < 2147483648 ∧ (S' = S))))) ∨ (¬ x1N = 0 ∧ (∃ v34 S34, mo_take 41 S v34 S34 ∧ ((v34 = true ∧ (1 ≤ x1N ∧ (mo_expression_go n 1 (x1N - 1) S34 S'))) ∨ (¬ v34 = true ∧ (((r_wrong S34) = none ∧ ((r_at S34) < 155 ∧ (((r_kind S34) (r_at S34)) < 2147483648 ∧ (((isOp ((r_kind S34) (r_at S34))) = true ∧ (mo_expression_go n 0 x1N (w_at S34 ((r_at S34) + 1)) S')) ∨ (¬ (isOp ((r_kind S34) (r_at S34))) = true ∧ (∃ S44, mo_blame (r_at S34) S34 S44 ∧ (S' = S44))))))) ∨ (∃ t37, (r_wrong S34) = some t37 ∧ (t37 < 2147483648 ∧ (∃ S50, mo_blame (r_at S34) S34 S50 ∧ (S' = S50))))))))))
    | _ => False
def mo_expression (S : MS) (S' : MS) : Prop := ∃ v52 S52, mo_take 45 S v52 S52 ∧ (∃ n, mo_expression_go n 0 0 S52 S')
set_option maxHeartbeats 4000000 in
set_option maxRecDepth 100000 in
theorem c_Mo_expression {l : Launch} {z : Zt} {b : Nat → Nat} {S : MS} {S' : MS} (h : Nat) (hres : mo_expression S S') : XC l (Gz z) (h + 3) y_Mo_expression b_Mo_expression 3 none [.ref (b 0)] (mw z b S) (.inl none) (mw z b S') := by
  rw [mo_expression] at hres
  refine XC.ofV (by decide +kernel) rfl ?_
  intro p e s m below meth c X hnm
  have go : ∀ n : Nat, (∀ (x1N : Nat) (S : MS), mo_expression_go n 0 x1N S S' → V p l e (Rm (h + 3)) s m ([.ref (b 0)] : List Value).toArray below meth c (Gz z) 3 0 0 (XE below (Gz z) (.inl none) (mw z b S') ([.ref (b 0)] : List Value).toArray s) (mw z b S) 11 [(0, .ref (b 0)), (1, .int (nI x1N)), (2, .int (nI 1))] []) ∧ (∀ (x1N : Nat) (S : MS), mo_expression_go n 1 x1N S S' → V p l e (Rm (h + 3)) s m ([.ref (b 0)] : List Value).toArray below meth c (Gz z) 3 0 0 (XE below (Gz z) (.inl none) (mw z b S') ([.ref (b 0)] : List Value).toArray s) (mw z b S) 74 [(0, .ref (b 0)), (1, .int (nI x1N))] []) := by
    intro n
    induction n with
    | zero =>
      refine ⟨?_, ?_⟩
      · intro x1N S hres
        exact absurd hres (by simp only [mo_expression_go, not_false_eq_true])
      · intro x1N S hres
        exact absurd hres (by simp only [mo_expression_go, not_false_eq_true])
    | succ n ih =>
      refine ⟨?_, ?_⟩
      · intro x1N S hres
        rw [mo_expression_go] at hres
        try dsimp only at hres
        refine V.iload_n X d_Mo_expression_11 rfl ?_
        refine V.ifN_eq (tgt := 139) X d_Mo_expression_12 (by decide) (by decide) (fun h => absurd h (by decide)) (fun _ => ?_)
        refine V.aload_n X d_Mo_expression_15 rfl ?_
        refine g_Mo_wrong (x := (r_wrong S)) X rfl k_Mo_187 d_Mo_expression_16 ?_
        rcases hres with ⟨qt3, hres⟩ | ⟨t3, qt3, hres⟩
        · refine V.top (v' := .int (-1)) (by rw [qt3]; rfl) ?_
          refine V.if_ge (tgt := 139) X d_Mo_expression_19 (by decide) (fun h => absurd h (by decide)) (fun _ => ?_)
          refine V.aload_n X d_Mo_expression_22 rfl ?_
          refine g_Mo_kind X k_Mo_13 d_Mo_expression_23 ?_
          refine V.aload_n X d_Mo_expression_26 rfl ?_
          refine g_Mo_at (x := (r_at S)) X rfl k_Mo_190 d_Mo_expression_27 ?_
          obtain ⟨g4, hres⟩ := hres
          refine l_Mo_kind (x := ((r_kind S) (r_at S))) X g4 (congrFun rfl _) d_Mo_expression_30 ?_
          refine V.bipush (v := nI 40) X d_Mo_expression_31 (by decide +kernel) ?_
          obtain ⟨g6, hres⟩ := hres
          refine V.cmpN_ne (tgt := 70) X d_Mo_expression_33 (by decide) (by omega) (by omega) (fun h33_5 => ?_) (fun h33_5 => ?_)
          · replace hres := or_f hres h33_5
            refine V.aload_n X d_Mo_expression_70 rfl ?_
            obtain ⟨S7, x7, hres⟩ := hres
            refine V.callV0 X (c_Mo_factor (h + 0) x7) Y_Mo_factor k_Mo_236 0 rfl rfl rfl rfl rfl (Rok.lt (by omega)) d_Mo_expression_71 ?_
            refine V.pick [0, 1] rfl ?_
            refine V.lvs (lv' := [(0, .ref (b 0)), (1, .int (nI x1N))]) rfl ?_
            exact ih.2 _ S7 hres
          · replace hres := or_t hres h33_5
            refine V.iload_n X d_Mo_expression_36 rfl ?_
            refine V.bipush (v := nI 8) X d_Mo_expression_37 (by decide +kernel) ?_
            obtain ⟨g9, hres⟩ := hres
            refine V.cmpN_ne (tgt := 50) X d_Mo_expression_39 (by decide) (by omega) (by omega) (fun h39_8 => ?_) (fun h39_8 => ?_)
            · replace hres := or_f hres h39_8
              refine V.iinc (lv' := [(0, .ref (b 0)), (1, .int (nI (x1N + 1))), (2, .int (nI 1))]) X d_Mo_expression_50 rfl (show _ + nI 1 = _ from nI_add _ 1) (by decide) rfl ?_
              refine V.aload_n X d_Mo_expression_53 rfl ?_
              refine V.bipush (v := nI 40) X d_Mo_expression_54 (by decide +kernel) ?_
              obtain ⟨v10, S10, x10, hres⟩ := hres
              refine V.callV1 X (c_Mo_take (h + 1) x10) Y_Mo_take k_Mo_193 0 rfl rfl rfl rfl rfl (Rok.lt (by omega)) d_Mo_expression_56 ?_
              refine V.pop X d_Mo_expression_59 rfl ?_
              refine V.aload_n X d_Mo_expression_60 rfl ?_
              refine V.bipush (v := nI 45) X d_Mo_expression_61 (by decide +kernel) ?_
              obtain ⟨v11, S11, x11, hres⟩ := hres
              refine V.callV1 X (c_Mo_take (h + 1) x11) Y_Mo_take k_Mo_193 0 rfl rfl rfl rfl rfl (Rok.lt (by omega)) d_Mo_expression_63 ?_
              refine V.pop X d_Mo_expression_66 rfl ?_
              refine V.goto (tgt := 11) X d_Mo_expression_67 (by decide) ?_
              refine V.lvs (lv' := [(0, .ref (b 0)), (1, .int (nI (x1N + 1))), (2, .int (nI 1))]) rfl ?_
              exact ih.1 _ S11 hres
            · replace hres := or_t hres h39_8
              refine V.aload_n X d_Mo_expression_42 rfl ?_
              refine V.aload_n X d_Mo_expression_43 rfl ?_
              refine g_Mo_at (x := (r_at S)) X rfl k_Mo_190 d_Mo_expression_44 ?_
              obtain ⟨S12, x12, hres⟩ := hres
              refine V.callV0 X (c_Mo_blame (h + 1) x12) Y_Mo_blame k_Mo_196 0 rfl rfl rfl rfl rfl (Rok.lt (by omega)) d_Mo_expression_47 ?_
              refine V.iinc (lv' := [(0, .ref (b 0)), (1, .int (nI (x1N + 1))), (2, .int (nI 1))]) X d_Mo_expression_50 rfl (show _ + nI 1 = _ from nI_add _ 1) (by decide) rfl ?_
              refine V.aload_n X d_Mo_expression_53 rfl ?_
              refine V.bipush (v := nI 40) X d_Mo_expression_54 (by decide +kernel) ?_
              obtain ⟨v13, S13, x13, hres⟩ := hres
              refine V.callV1 X (c_Mo_take (h + 1) x13) Y_Mo_take k_Mo_193 0 rfl rfl rfl rfl rfl (Rok.lt (by omega)) d_Mo_expression_56 ?_
              refine V.pop X d_Mo_expression_59 rfl ?_
              refine V.aload_n X d_Mo_expression_60 rfl ?_
              refine V.bipush (v := nI 45) X d_Mo_expression_61 (by decide +kernel) ?_
              obtain ⟨v14, S14, x14, hres⟩ := hres
              refine V.callV1 X (c_Mo_take (h + 1) x14) Y_Mo_take k_Mo_193 0 rfl rfl rfl rfl rfl (Rok.lt (by omega)) d_Mo_expression_63 ?_
              refine V.pop X d_Mo_expression_66 rfl ?_
              refine V.goto (tgt := 11) X d_Mo_expression_67 (by decide) ?_
              refine V.lvs (lv' := [(0, .ref (b 0)), (1, .int (nI (x1N + 1))), (2, .int (nI 1))]) rfl ?_
              exact ih.1 _ S14 hres
        · refine V.top (v' := .int (nI t3)) (by rw [qt3]; rfl) ?_
          obtain ⟨g15, hres⟩ := hres
          refine V.ifN_ge (tgt := 139) X d_Mo_expression_19 (by decide) (by omega) ?_
          refine V.iload_n X d_Mo_expression_139 rfl ?_
          obtain ⟨g17, hres⟩ := hres
          refine V.ifN_le (tgt := 151) X d_Mo_expression_140 (by decide) (by omega) (fun h140_16 => ?_) (fun h140_16 => ?_)
          · replace hres := or_t hres h140_16
            subst hres
            exact V.vret X d_Mo_expression_151 rfl rfl
          · replace hres := or_f hres h140_16
            refine V.aload_n X d_Mo_expression_143 rfl ?_
            refine V.aload_n X d_Mo_expression_144 rfl ?_
            refine g_Mo_at (x := (r_at S)) X rfl k_Mo_190 d_Mo_expression_145 ?_
            obtain ⟨S18, x18, hres⟩ := hres
            refine V.callV0 X (c_Mo_blame (h + 1) x18) Y_Mo_blame k_Mo_196 0 rfl rfl rfl rfl rfl (Rok.lt (by omega)) d_Mo_expression_148 ?_
            subst hres
            exact V.vret X d_Mo_expression_151 rfl rfl
      · intro x1N S hres
        rw [mo_expression_go] at hres
        try dsimp only at hres
        refine V.iload_n X d_Mo_expression_74 rfl ?_
        obtain ⟨g20, hres⟩ := hres
        refine V.ifN_le (tgt := 93) X d_Mo_expression_75 (by decide) (by omega) (fun h75_19 => ?_) (fun h75_19 => ?_)
        · replace hres := or_t hres h75_19
          refine V.aload_n X d_Mo_expression_93 rfl ?_
          refine g_Mo_wrong (x := (r_wrong S)) X rfl k_Mo_187 d_Mo_expression_94 ?_
          rcases hres with ⟨qt22, hres⟩ | ⟨t22, qt22, hres⟩
          · refine V.top (v' := .int (-1)) (by rw [qt22]; rfl) ?_
            refine V.if_ge (tgt := 120) X d_Mo_expression_97 (by decide) (fun h => absurd h (by decide)) (fun _ => ?_)
            refine V.aload_n X d_Mo_expression_100 rfl ?_
            refine V.aload_n X d_Mo_expression_101 rfl ?_
            refine g_Mo_kind X k_Mo_13 d_Mo_expression_102 ?_
            refine V.aload_n X d_Mo_expression_105 rfl ?_
            refine g_Mo_at (x := (r_at S)) X rfl k_Mo_190 d_Mo_expression_106 ?_
            obtain ⟨g23, hres⟩ := hres
            refine l_Mo_kind (x := ((r_kind S) (r_at S))) X g23 (congrFun rfl _) d_Mo_expression_109 ?_
            obtain ⟨g24, hres⟩ := hres
            refine V.callV1 X (c_Mo_operator (h + 2) (by omega)) Y_Mo_operator k_Mo_239 0 rfl rfl rfl rfl rfl (Rok.lt (by omega)) d_Mo_expression_110 ?_
            refine V.ifB_eq (tgt := 120) X d_Mo_expression_113 (by decide) (fun h113_25 => ?_) (fun h113_25 => ?_)
            · replace hres := or_f hres (by rw [h113_25]; decide)
              refine V.iconst (v := nI 0) X d_Mo_expression_120 (by decide +kernel) ?_
              refine V.istore_n (lv' := [(0, .ref (b 0)), (1, .int (nI x1N)), (2, .int (nI 0))]) X d_Mo_expression_121 (by decide) rfl ?_
              refine V.iload_n X d_Mo_expression_122 rfl ?_
              refine V.ifN_eq (tgt := 11) X d_Mo_expression_123 (by decide) (by decide) (fun _ => ?_) (fun h => absurd h (by decide))
              refine V.iload_n X d_Mo_expression_11 rfl ?_
              refine V.ifN_eq (tgt := 139) X d_Mo_expression_12 (by decide) (by decide) (fun _ => ?_) (fun h => absurd h (by decide))
              refine V.iload_n X d_Mo_expression_139 rfl ?_
              refine V.ifN_le (tgt := 151) X d_Mo_expression_140 (by decide) (by omega) (fun _ => ?_) (fun h => absurd h (by omega))
              subst hres
              exact V.vret X d_Mo_expression_151 rfl rfl
            · replace hres := or_t hres h113_25
              refine V.iconst (v := nI 1) X d_Mo_expression_116 (by decide +kernel) ?_
              refine V.goto (tgt := 121) X d_Mo_expression_117 (by decide) ?_
              refine V.istore_n (lv' := [(0, .ref (b 0)), (1, .int (nI x1N)), (2, .int (nI 1))]) X d_Mo_expression_121 (by decide) rfl ?_
              refine V.iload_n X d_Mo_expression_122 rfl ?_
              refine V.ifN_eq (tgt := 11) X d_Mo_expression_123 (by decide) (by decide) (fun h => absurd h (by decide)) (fun _ => ?_)
              refine V.aload_n X d_Mo_expression_126 rfl ?_
              refine V.dup X d_Mo_expression_127 rfl ?_
              refine g_Mo_at (x := (r_at S)) X rfl k_Mo_190 d_Mo_expression_128 ?_
              refine V.iconst (v := nI 1) X d_Mo_expression_131 (by decide +kernel) ?_
              refine V.iadd X d_Mo_expression_132 (nI_add _ _) ?_
              refine p_Mo_at X k_Mo_190 d_Mo_expression_133 ?_
              refine V.goto (tgt := 11) X d_Mo_expression_136 (by decide) ?_
              refine V.lvs (lv' := [(0, .ref (b 0)), (1, .int (nI x1N)), (2, .int (nI 1))]) rfl ?_
              exact ih.1 _ (w_at S ((r_at S) + 1)) hres
          · refine V.top (v' := .int (nI t22)) (by rw [qt22]; rfl) ?_
            obtain ⟨g30, hres⟩ := hres
            refine V.ifN_ge (tgt := 120) X d_Mo_expression_97 (by decide) (by omega) ?_
            refine V.iconst (v := nI 0) X d_Mo_expression_120 (by decide +kernel) ?_
            refine V.istore_n (lv' := [(0, .ref (b 0)), (1, .int (nI x1N)), (2, .int (nI 0))]) X d_Mo_expression_121 (by decide) rfl ?_
            refine V.iload_n X d_Mo_expression_122 rfl ?_
            refine V.ifN_eq (tgt := 11) X d_Mo_expression_123 (by decide) (by decide) (fun _ => ?_) (fun h => absurd h (by decide))
            refine V.iload_n X d_Mo_expression_11 rfl ?_
            refine V.ifN_eq (tgt := 139) X d_Mo_expression_12 (by decide) (by decide) (fun _ => ?_) (fun h => absurd h (by decide))
            refine V.iload_n X d_Mo_expression_139 rfl ?_
            refine V.ifN_le (tgt := 151) X d_Mo_expression_140 (by decide) (by omega) (fun _ => ?_) (fun h => absurd h (by omega))
            subst hres
            exact V.vret X d_Mo_expression_151 rfl rfl
        · replace hres := or_f hres h75_19
          refine V.aload_n X d_Mo_expression_78 rfl ?_
          refine V.bipush (v := nI 41) X d_Mo_expression_79 (by decide +kernel) ?_
          obtain ⟨v34, S34, x34, hres⟩ := hres
          refine V.callV1 X (c_Mo_take (h + 1) x34) Y_Mo_take k_Mo_193 0 rfl rfl rfl rfl rfl (Rok.lt (by omega)) d_Mo_expression_81 ?_
          refine V.ifB_eq (tgt := 93) X d_Mo_expression_84 (by decide) (fun h84_35 => ?_) (fun h84_35 => ?_)
          · replace hres := or_f hres (by rw [h84_35]; decide)
            refine V.aload_n X d_Mo_expression_93 rfl ?_
            refine g_Mo_wrong (x := (r_wrong S34)) X rfl k_Mo_187 d_Mo_expression_94 ?_
            rcases hres with ⟨qt37, hres⟩ | ⟨t37, qt37, hres⟩
            · refine V.top (v' := .int (-1)) (by rw [qt37]; rfl) ?_
              refine V.if_ge (tgt := 120) X d_Mo_expression_97 (by decide) (fun h => absurd h (by decide)) (fun _ => ?_)
              refine V.aload_n X d_Mo_expression_100 rfl ?_
              refine V.aload_n X d_Mo_expression_101 rfl ?_
              refine g_Mo_kind X k_Mo_13 d_Mo_expression_102 ?_
              refine V.aload_n X d_Mo_expression_105 rfl ?_
              refine g_Mo_at (x := (r_at S34)) X rfl k_Mo_190 d_Mo_expression_106 ?_
              obtain ⟨g38, hres⟩ := hres
              refine l_Mo_kind (x := ((r_kind S34) (r_at S34))) X g38 (congrFun rfl _) d_Mo_expression_109 ?_
              obtain ⟨g39, hres⟩ := hres
              refine V.callV1 X (c_Mo_operator (h + 2) (by omega)) Y_Mo_operator k_Mo_239 0 rfl rfl rfl rfl rfl (Rok.lt (by omega)) d_Mo_expression_110 ?_
              refine V.ifB_eq (tgt := 120) X d_Mo_expression_113 (by decide) (fun h113_40 => ?_) (fun h113_40 => ?_)
              · replace hres := or_f hres (by rw [h113_40]; decide)
                refine V.iconst (v := nI 0) X d_Mo_expression_120 (by decide +kernel) ?_
                refine V.istore_n (lv' := [(0, .ref (b 0)), (1, .int (nI x1N)), (2, .int (nI 0))]) X d_Mo_expression_121 (by decide) rfl ?_
                refine V.iload_n X d_Mo_expression_122 rfl ?_
                refine V.ifN_eq (tgt := 11) X d_Mo_expression_123 (by decide) (by decide) (fun _ => ?_) (fun h => absurd h (by decide))
                refine V.iload_n X d_Mo_expression_11 rfl ?_
                refine V.ifN_eq (tgt := 139) X d_Mo_expression_12 (by decide) (by decide) (fun _ => ?_) (fun h => absurd h (by decide))
                refine V.iload_n X d_Mo_expression_139 rfl ?_
                refine V.ifN_le (tgt := 151) X d_Mo_expression_140 (by decide) (by omega) (fun h => absurd h (by omega)) (fun _ => ?_)
                refine V.aload_n X d_Mo_expression_143 rfl ?_
                refine V.aload_n X d_Mo_expression_144 rfl ?_
                refine g_Mo_at (x := (r_at S34)) X rfl k_Mo_190 d_Mo_expression_145 ?_
                obtain ⟨S44, x44, hres⟩ := hres
                refine V.callV0 X (c_Mo_blame (h + 1) x44) Y_Mo_blame k_Mo_196 0 rfl rfl rfl rfl rfl (Rok.lt (by omega)) d_Mo_expression_148 ?_
                subst hres
                exact V.vret X d_Mo_expression_151 rfl rfl
              · replace hres := or_t hres h113_40
                refine V.iconst (v := nI 1) X d_Mo_expression_116 (by decide +kernel) ?_
                refine V.goto (tgt := 121) X d_Mo_expression_117 (by decide) ?_
                refine V.istore_n (lv' := [(0, .ref (b 0)), (1, .int (nI x1N)), (2, .int (nI 1))]) X d_Mo_expression_121 (by decide) rfl ?_
                refine V.iload_n X d_Mo_expression_122 rfl ?_
                refine V.ifN_eq (tgt := 11) X d_Mo_expression_123 (by decide) (by decide) (fun h => absurd h (by decide)) (fun _ => ?_)
                refine V.aload_n X d_Mo_expression_126 rfl ?_
                refine V.dup X d_Mo_expression_127 rfl ?_
                refine g_Mo_at (x := (r_at S34)) X rfl k_Mo_190 d_Mo_expression_128 ?_
                refine V.iconst (v := nI 1) X d_Mo_expression_131 (by decide +kernel) ?_
                refine V.iadd X d_Mo_expression_132 (nI_add _ _) ?_
                refine p_Mo_at X k_Mo_190 d_Mo_expression_133 ?_
                refine V.goto (tgt := 11) X d_Mo_expression_136 (by decide) ?_
                refine V.lvs (lv' := [(0, .ref (b 0)), (1, .int (nI x1N)), (2, .int (nI 1))]) rfl ?_
                exact ih.1 _ (w_at S34 ((r_at S34) + 1)) hres
            · refine V.top (v' := .int (nI t37)) (by rw [qt37]; rfl) ?_
              obtain ⟨g46, hres⟩ := hres
              refine V.ifN_ge (tgt := 120) X d_Mo_expression_97 (by decide) (by omega) ?_
              refine V.iconst (v := nI 0) X d_Mo_expression_120 (by decide +kernel) ?_
              refine V.istore_n (lv' := [(0, .ref (b 0)), (1, .int (nI x1N)), (2, .int (nI 0))]) X d_Mo_expression_121 (by decide) rfl ?_
              refine V.iload_n X d_Mo_expression_122 rfl ?_
              refine V.ifN_eq (tgt := 11) X d_Mo_expression_123 (by decide) (by decide) (fun _ => ?_) (fun h => absurd h (by decide))
              refine V.iload_n X d_Mo_expression_11 rfl ?_
              refine V.ifN_eq (tgt := 139) X d_Mo_expression_12 (by decide) (by decide) (fun _ => ?_) (fun h => absurd h (by decide))
              refine V.iload_n X d_Mo_expression_139 rfl ?_
              refine V.ifN_le (tgt := 151) X d_Mo_expression_140 (by decide) (by omega) (fun h => absurd h (by omega)) (fun _ => ?_)
              refine V.aload_n X d_Mo_expression_143 rfl ?_
              refine V.aload_n X d_Mo_expression_144 rfl ?_
              refine g_Mo_at (x := (r_at S34)) X rfl k_Mo_190 d_Mo_expression_145 ?_
              obtain ⟨S50, x50, hres⟩ := hres
              refine V.callV0 X (c_Mo_blame (h + 1) x50) Y_Mo_blame k_Mo_196 0 rfl rfl rfl rfl rfl (Rok.lt (by omega)) d_Mo_expression_148 ?_
              subst hres
              exact V.vret X d_Mo_expression_151 rfl rfl
          · replace hres := or_t hres h84_35
            obtain ⟨g51, hres⟩ := hres
            refine V.iinc (lv' := [(0, .ref (b 0)), (1, .int (nI (x1N - 1)))]) X d_Mo_expression_87 rfl (dec_nI g51) (by decide) rfl ?_
            refine V.goto (tgt := 74) X d_Mo_expression_90 (by decide) ?_
            refine V.lvs (lv' := [(0, .ref (b 0)), (1, .int (nI (x1N - 1)))]) rfl ?_
            exact ih.2 _ S34 hres
  refine V.lvs (lv' := [(0, .ref (b 0))]) rfl ?_
  refine V.iconst (v := nI 0) X d_Mo_expression_0 (by decide +kernel) ?_
  refine V.istore_n (lv' := [(0, .ref (b 0)), (1, .int (nI 0))]) X d_Mo_expression_1 (by decide) rfl ?_
  refine V.aload_n X d_Mo_expression_2 rfl ?_
  refine V.bipush (v := nI 45) X d_Mo_expression_3 (by decide +kernel) ?_
  obtain ⟨v52, S52, x52, hres⟩ := hres
  refine V.callV1 X (c_Mo_take (h + 1) x52) Y_Mo_take k_Mo_193 0 rfl rfl rfl rfl rfl (Rok.lt (by omega)) d_Mo_expression_5 ?_
  refine V.pop X d_Mo_expression_8 rfl ?_
  refine V.iconst (v := nI 1) X d_Mo_expression_9 (by decide +kernel) ?_
  refine V.istore_n (lv' := [(0, .ref (b 0)), (1, .int (nI 0)), (2, .int (nI 1))]) X d_Mo_expression_10 (by decide) rfl ?_
  refine V.lvs (lv' := [(0, .ref (b 0)), (1, .int (nI 0)), (2, .int (nI 1))]) rfl ?_
  obtain ⟨n, hres⟩ := hres
  exact (go n).1 _ S52 hres
def mo_condition (S : MS) (S' : MS) : Prop := ∃ S1, mo_expression S S1 ∧ (((r_wrong S1) = none ∧ ((r_at S1) < 155 ∧ (((r_kind S1) (r_at S1)) < 2147483648 ∧ ((((r_kind S1) (r_at S1)) < 60 ∧ (∃ S7, mo_blame (r_at S1) S1 S7 ∧ (∃ S8, mo_expression S7 S8 ∧ (S' = S8)))) ∨ (¬ ((r_kind S1) (r_at S1)) < 60 ∧ ((r_at S1) < 155 ∧ ((62 < ((r_kind S1) (r_at S1)) ∧ (∃ S11, mo_blame (r_at S1) S1 S11 ∧ (∃ S12, mo_expression S11 S12 ∧ (S' = S12)))) ∨ (¬ 62 < ((r_kind S1) (r_at S1)) ∧ (∃ S13, mo_expression (w_at S1 ((r_at S1) + 1)) S13 ∧ (S' = S13)))))))))) ∨ (∃ t3, (r_wrong S1) = some t3 ∧ (t3 < 2147483648 ∧ (∃ S15, mo_blame (r_at S1) S1 S15 ∧ (∃ S16, mo_expression S15 S16 ∧ (S' = S16))))))
set_option maxHeartbeats 4000000 in
set_option maxRecDepth 100000 in
theorem c_Mo_condition {l : Launch} {z : Zt} {b : Nat → Nat} {S : MS} {S' : MS} (h : Nat) (hres : mo_condition S S') : XC l (Gz z) (h + 4) y_Mo_condition b_Mo_condition 1 none [.ref (b 0)] (mw z b S) (.inl none) (mw z b S') := by
  rw [mo_condition] at hres
  refine XC.ofV (by decide +kernel) rfl ?_
  intro p e s m below meth c X hnm
  refine V.lvs (lv' := [(0, .ref (b 0))]) rfl ?_
  refine V.aload_n X d_Mo_condition_0 rfl ?_
  obtain ⟨S1, x1, hres⟩ := hres
  refine V.callV0 X (c_Mo_expression (h + 0) x1) Y_Mo_expression k_Mo_242 0 rfl rfl rfl rfl rfl (Rok.lt (by omega)) d_Mo_condition_1 ?_
  refine V.aload_n X d_Mo_condition_4 rfl ?_
  refine g_Mo_wrong (x := (r_wrong S1)) X rfl k_Mo_187 d_Mo_condition_5 ?_
  rcases hres with ⟨qt3, hres⟩ | ⟨t3, qt3, hres⟩
  · refine V.top (v' := .int (-1)) (by rw [qt3]; rfl) ?_
    refine V.if_ge (tgt := 52) X d_Mo_condition_8 (by decide) (fun h => absurd h (by decide)) (fun _ => ?_)
    refine V.aload_n X d_Mo_condition_11 rfl ?_
    refine g_Mo_kind X k_Mo_13 d_Mo_condition_12 ?_
    refine V.aload_n X d_Mo_condition_15 rfl ?_
    refine g_Mo_at (x := (r_at S1)) X rfl k_Mo_190 d_Mo_condition_16 ?_
    obtain ⟨g4, hres⟩ := hres
    refine l_Mo_kind (x := ((r_kind S1) (r_at S1))) X g4 (congrFun rfl _) d_Mo_condition_19 ?_
    refine V.bipush (v := nI 60) X d_Mo_condition_20 (by decide +kernel) ?_
    obtain ⟨g6, hres⟩ := hres
    refine V.cmpN_lt (tgt := 52) X d_Mo_condition_22 (by decide) (by omega) (by omega) (fun h22_5 => ?_) (fun h22_5 => ?_)
    · replace hres := or_t hres h22_5
      refine V.aload_n X d_Mo_condition_52 rfl ?_
      refine V.aload_n X d_Mo_condition_53 rfl ?_
      refine g_Mo_at (x := (r_at S1)) X rfl k_Mo_190 d_Mo_condition_54 ?_
      obtain ⟨S7, x7, hres⟩ := hres
      refine V.callV0 X (c_Mo_blame (h + 2) x7) Y_Mo_blame k_Mo_196 0 rfl rfl rfl rfl rfl (Rok.lt (by omega)) d_Mo_condition_57 ?_
      refine V.aload_n X d_Mo_condition_60 rfl ?_
      obtain ⟨S8, x8, hres⟩ := hres
      refine V.callV0 X (c_Mo_expression (h + 0) x8) Y_Mo_expression k_Mo_242 0 rfl rfl rfl rfl rfl (Rok.lt (by omega)) d_Mo_condition_61 ?_
      subst hres
      exact V.vret X d_Mo_condition_64 rfl rfl
    · replace hres := or_f hres (Nat.not_lt.mpr h22_5)
      refine V.aload_n X d_Mo_condition_25 rfl ?_
      refine g_Mo_kind X k_Mo_13 d_Mo_condition_26 ?_
      refine V.aload_n X d_Mo_condition_29 rfl ?_
      refine g_Mo_at (x := (r_at S1)) X rfl k_Mo_190 d_Mo_condition_30 ?_
      obtain ⟨g9, hres⟩ := hres
      refine l_Mo_kind (x := ((r_kind S1) (r_at S1))) X g9 (congrFun rfl _) d_Mo_condition_33 ?_
      refine V.bipush (v := nI 62) X d_Mo_condition_34 (by decide +kernel) ?_
      refine V.cmpN_gt (tgt := 52) X d_Mo_condition_36 (by decide) (by omega) (by omega) (fun h36_10 => ?_) (fun h36_10 => ?_)
      · replace hres := or_t hres h36_10
        refine V.aload_n X d_Mo_condition_52 rfl ?_
        refine V.aload_n X d_Mo_condition_53 rfl ?_
        refine g_Mo_at (x := (r_at S1)) X rfl k_Mo_190 d_Mo_condition_54 ?_
        obtain ⟨S11, x11, hres⟩ := hres
        refine V.callV0 X (c_Mo_blame (h + 2) x11) Y_Mo_blame k_Mo_196 0 rfl rfl rfl rfl rfl (Rok.lt (by omega)) d_Mo_condition_57 ?_
        refine V.aload_n X d_Mo_condition_60 rfl ?_
        obtain ⟨S12, x12, hres⟩ := hres
        refine V.callV0 X (c_Mo_expression (h + 0) x12) Y_Mo_expression k_Mo_242 0 rfl rfl rfl rfl rfl (Rok.lt (by omega)) d_Mo_condition_61 ?_
        subst hres
        exact V.vret X d_Mo_condition_64 rfl rfl
      · replace hres := or_f hres (Nat.not_lt.mpr h36_10)
        refine V.aload_n X d_Mo_condition_39 rfl ?_
        refine V.dup X d_Mo_condition_40 rfl ?_
        refine g_Mo_at (x := (r_at S1)) X rfl k_Mo_190 d_Mo_condition_41 ?_
        refine V.iconst (v := nI 1) X d_Mo_condition_44 (by decide +kernel) ?_
        refine V.iadd X d_Mo_condition_45 (nI_add _ _) ?_
        refine p_Mo_at X k_Mo_190 d_Mo_condition_46 ?_
        refine V.goto (tgt := 60) X d_Mo_condition_49 (by decide) ?_
        refine V.aload_n X d_Mo_condition_60 rfl ?_
        obtain ⟨S13, x13, hres⟩ := hres
        refine V.callV0 X (c_Mo_expression (h + 0) x13) Y_Mo_expression k_Mo_242 0 rfl rfl rfl rfl rfl (Rok.lt (by omega)) d_Mo_condition_61 ?_
        subst hres
        exact V.vret X d_Mo_condition_64 rfl rfl
  · refine V.top (v' := .int (nI t3)) (by rw [qt3]; rfl) ?_
    obtain ⟨g14, hres⟩ := hres
    refine V.ifN_ge (tgt := 52) X d_Mo_condition_8 (by decide) (by omega) ?_
    refine V.aload_n X d_Mo_condition_52 rfl ?_
    refine V.aload_n X d_Mo_condition_53 rfl ?_
    refine g_Mo_at (x := (r_at S1)) X rfl k_Mo_190 d_Mo_condition_54 ?_
    obtain ⟨S15, x15, hres⟩ := hres
    refine V.callV0 X (c_Mo_blame (h + 2) x15) Y_Mo_blame k_Mo_196 0 rfl rfl rfl rfl rfl (Rok.lt (by omega)) d_Mo_condition_57 ?_
    refine V.aload_n X d_Mo_condition_60 rfl ?_
    obtain ⟨S16, x16, hres⟩ := hres
    refine V.callV0 X (c_Mo_expression (h + 0) x16) Y_Mo_expression k_Mo_242 0 rfl rfl rfl rfl rfl (Rok.lt (by omega)) d_Mo_condition_61 ?_
    subst hres
    exact V.vret X d_Mo_condition_64 rfl rfl
def mo_argument (p1 : Nat) (p2 : Nat) (S : MS) (S' : MS) : Prop := ∃ S1, mo_expression S S1 ∧ ((r_at S1) < 2147483648 ∧ (((r_at S) + 1) < 2147483648 ∧ (((r_at S1) = ((r_at S) + 1) ∧ ((r_at S) < 155 ∧ (((r_kind S1) (r_at S)) < 2147483648 ∧ ((((r_kind S1) (r_at S)) = 1 ∧ (((r_wrong S1) = none ∧ (S' = S1)) ∨ (∃ t33, (r_wrong S1) = some t33 ∧ (t33 < 2147483648 ∧ (S' = S1))))) ∨ (¬ ((r_kind S1) (r_at S)) = 1 ∧ (((r_wrong S1) = none ∧ (p1 < 18 ∧ (p2 < 2147483648 ∧ (((r_wants S1) p1) < 2147483648 ∧ ((p2 < ((r_wants S1) p1) ∧ ((poF p1 p2) < 18 ∧ (((r_sort S1) (poF p1 p2)) < 2147483648 ∧ ((((r_sort S1) (poF p1 p2)) = 2 ∧ (∃ S30, mo_blame (r_at S) S1 S30 ∧ (S' = S30))) ∨ (¬ ((r_sort S1) (poF p1 p2)) = 2 ∧ (S' = S1)))))) ∨ (¬ p2 < ((r_wants S1) p1) ∧ (S' = S1))))))) ∨ (∃ t21, (r_wrong S1) = some t21 ∧ (t21 < 2147483648 ∧ (S' = S1))))))))) ∨ (¬ (r_at S1) = ((r_at S) + 1) ∧ (((r_wrong S1) = none ∧ (p1 < 18 ∧ (p2 < 2147483648 ∧ (((r_wants S1) p1) < 2147483648 ∧ ((p2 < ((r_wants S1) p1) ∧ ((poF p1 p2) < 18 ∧ (((r_sort S1) (poF p1 p2)) < 2147483648 ∧ ((((r_sort S1) (poF p1 p2)) = 2 ∧ (∃ S15, mo_blame (r_at S) S1 S15 ∧ (S' = S15))) ∨ (¬ ((r_sort S1) (poF p1 p2)) = 2 ∧ (S' = S1)))))) ∨ (¬ p2 < ((r_wants S1) p1) ∧ (S' = S1))))))) ∨ (∃ t6, (r_wrong S1) = some t6 ∧ (t6 < 2147483648 ∧ (S' = S1))))))))
set_option maxHeartbeats 4000000 in
set_option maxRecDepth 100000 in
theorem c_Mo_argument {l : Launch} {z : Zt} {b : Nat → Nat} {S : MS} {p1 : Nat} {p2 : Nat} {S' : MS} (h : Nat) (hres : mo_argument p1 p2 S S') : XC l (Gz z) (h + 4) y_Mo_argument b_Mo_argument 5 none [.ref (b 0), .int (nI p1), .int (nI p2)] (mw z b S) (.inl none) (mw z b S') := by
  rw [mo_argument] at hres
  refine XC.ofV (by decide +kernel) rfl ?_
  intro p e s m below meth c X hnm
  refine V.lvs (lv' := [(0, .ref (b 0)), (1, .int (nI p1)), (2, .int (nI p2))]) rfl ?_
  refine V.aload_n X d_Mo_argument_0 rfl ?_
  refine g_Mo_at (x := (r_at S)) X rfl k_Mo_190 d_Mo_argument_1 ?_
  refine V.istore_n (lv' := [(0, .ref (b 0)), (1, .int (nI p1)), (2, .int (nI p2)), (3, .int (nI (r_at S)))]) X d_Mo_argument_4 (by decide) rfl ?_
  refine V.aload_n X d_Mo_argument_5 rfl ?_
  obtain ⟨S1, x1, hres⟩ := hres
  refine V.callV0 X (c_Mo_expression (h + 0) x1) Y_Mo_expression k_Mo_242 0 rfl rfl rfl rfl rfl (Rok.lt (by omega)) d_Mo_argument_6 ?_
  refine V.aload_n X d_Mo_argument_9 rfl ?_
  refine g_Mo_at (x := (r_at S1)) X rfl k_Mo_190 d_Mo_argument_10 ?_
  refine V.iload_n X d_Mo_argument_13 rfl ?_
  refine V.iconst (v := nI 1) X d_Mo_argument_14 (by decide +kernel) ?_
  refine V.iadd X d_Mo_argument_15 (nI_add _ _) ?_
  obtain ⟨g3, hres⟩ := hres
  obtain ⟨g4, hres⟩ := hres
  refine V.cmpN_ne (tgt := 33) X d_Mo_argument_16 (by decide) (by omega) (by omega) (fun h16_2 => ?_) (fun h16_2 => ?_)
  · replace hres := or_f hres h16_2
    refine V.iconst (v := nI 0) X d_Mo_argument_33 (by decide +kernel) ?_
    refine V.istore (lv' := [(0, .ref (b 0)), (1, .int (nI p1)), (2, .int (nI p2)), (3, .int (nI (r_at S))), (4, .int (nI 0))]) X d_Mo_argument_34 (by decide) rfl ?_
    refine V.aload_n X d_Mo_argument_36 rfl ?_
    refine g_Mo_wrong (x := (r_wrong S1)) X rfl k_Mo_187 d_Mo_argument_37 ?_
    rcases hres with ⟨qt6, hres⟩ | ⟨t6, qt6, hres⟩
    · refine V.top (v' := .int (-1)) (by rw [qt6]; rfl) ?_
      refine V.if_ge (tgt := 58) X d_Mo_argument_40 (by decide) (fun h => absurd h (by decide)) (fun _ => ?_)
      refine V.iload X d_Mo_argument_43 rfl ?_
      refine V.ifN_ne (tgt := 58) X d_Mo_argument_45 (by decide) (by decide) (fun h => absurd h (by decide)) (fun _ => ?_)
      refine V.iload_n X d_Mo_argument_48 rfl ?_
      refine V.aload_n X d_Mo_argument_49 rfl ?_
      refine g_Mo_wants X k_Mo_60 d_Mo_argument_50 ?_
      refine V.iload_n X d_Mo_argument_53 rfl ?_
      obtain ⟨g8, hres⟩ := hres
      refine l_Mo_wants (x := ((r_wants S1) p1)) X g8 (congrFun rfl _) d_Mo_argument_54 ?_
      obtain ⟨g10, hres⟩ := hres
      obtain ⟨g11, hres⟩ := hres
      refine V.cmpN_lt (tgt := 59) X d_Mo_argument_55 (by decide) (by omega) (by omega) (fun h55_9 => ?_) (fun h55_9 => ?_)
      · replace hres := or_t hres h55_9
        refine V.aload_n X d_Mo_argument_59 rfl ?_
        refine g_Mo_sort X k_Mo_51 d_Mo_argument_60 ?_
        refine V.aload_n X d_Mo_argument_63 rfl ?_
        refine V.iload_n X d_Mo_argument_64 rfl ?_
        refine V.iload_n X d_Mo_argument_65 rfl ?_
        refine V.callV1 X (c_Mo_parameterOf (h + 3)) Y_Mo_parameterOf k_Mo_245 0 rfl rfl rfl rfl rfl (Rok.lt (by omega)) d_Mo_argument_66 ?_
        obtain ⟨g12, hres⟩ := hres
        refine l_Mo_sort (x := ((r_sort S1) (poF p1 p2))) X g12 (congrFun rfl _) d_Mo_argument_69 ?_
        refine V.iconst (v := nI 2) X d_Mo_argument_70 (by decide +kernel) ?_
        obtain ⟨g14, hres⟩ := hres
        refine V.cmpN_ne (tgt := 79) X d_Mo_argument_71 (by decide) (by omega) (by omega) (fun h71_13 => ?_) (fun h71_13 => ?_)
        · replace hres := or_f hres h71_13
          subst hres
          exact V.vret X d_Mo_argument_79 rfl rfl
        · replace hres := or_t hres h71_13
          refine V.aload_n X d_Mo_argument_74 rfl ?_
          refine V.iload_n X d_Mo_argument_75 rfl ?_
          obtain ⟨S15, x15, hres⟩ := hres
          refine V.callV0 X (c_Mo_blame (h + 2) x15) Y_Mo_blame k_Mo_196 0 rfl rfl rfl rfl rfl (Rok.lt (by omega)) d_Mo_argument_76 ?_
          subst hres
          exact V.vret X d_Mo_argument_79 rfl rfl
      · replace hres := or_f hres (Nat.not_lt.mpr h55_9)
        subst hres
        exact V.vret X d_Mo_argument_58 rfl rfl
    · refine V.top (v' := .int (nI t6)) (by rw [qt6]; rfl) ?_
      obtain ⟨g16, hres⟩ := hres
      refine V.ifN_ge (tgt := 58) X d_Mo_argument_40 (by decide) (by omega) ?_
      subst hres
      exact V.vret X d_Mo_argument_58 rfl rfl
  · replace hres := or_t hres h16_2
    refine V.aload_n X d_Mo_argument_19 rfl ?_
    refine g_Mo_kind X k_Mo_13 d_Mo_argument_20 ?_
    refine V.iload_n X d_Mo_argument_23 rfl ?_
    obtain ⟨g17, hres⟩ := hres
    refine l_Mo_kind (x := ((r_kind S1) (r_at S))) X g17 (congrFun rfl _) d_Mo_argument_24 ?_
    refine V.iconst (v := nI 1) X d_Mo_argument_25 (by decide +kernel) ?_
    obtain ⟨g19, hres⟩ := hres
    refine V.cmpN_ne (tgt := 33) X d_Mo_argument_26 (by decide) (by omega) (by omega) (fun h26_18 => ?_) (fun h26_18 => ?_)
    · replace hres := or_f hres h26_18
      refine V.iconst (v := nI 0) X d_Mo_argument_33 (by decide +kernel) ?_
      refine V.istore (lv' := [(0, .ref (b 0)), (1, .int (nI p1)), (2, .int (nI p2)), (3, .int (nI (r_at S))), (4, .int (nI 0))]) X d_Mo_argument_34 (by decide) rfl ?_
      refine V.aload_n X d_Mo_argument_36 rfl ?_
      refine g_Mo_wrong (x := (r_wrong S1)) X rfl k_Mo_187 d_Mo_argument_37 ?_
      rcases hres with ⟨qt21, hres⟩ | ⟨t21, qt21, hres⟩
      · refine V.top (v' := .int (-1)) (by rw [qt21]; rfl) ?_
        refine V.if_ge (tgt := 58) X d_Mo_argument_40 (by decide) (fun h => absurd h (by decide)) (fun _ => ?_)
        refine V.iload X d_Mo_argument_43 rfl ?_
        refine V.ifN_ne (tgt := 58) X d_Mo_argument_45 (by decide) (by decide) (fun h => absurd h (by decide)) (fun _ => ?_)
        refine V.iload_n X d_Mo_argument_48 rfl ?_
        refine V.aload_n X d_Mo_argument_49 rfl ?_
        refine g_Mo_wants X k_Mo_60 d_Mo_argument_50 ?_
        refine V.iload_n X d_Mo_argument_53 rfl ?_
        obtain ⟨g23, hres⟩ := hres
        refine l_Mo_wants (x := ((r_wants S1) p1)) X g23 (congrFun rfl _) d_Mo_argument_54 ?_
        obtain ⟨g25, hres⟩ := hres
        obtain ⟨g26, hres⟩ := hres
        refine V.cmpN_lt (tgt := 59) X d_Mo_argument_55 (by decide) (by omega) (by omega) (fun h55_24 => ?_) (fun h55_24 => ?_)
        · replace hres := or_t hres h55_24
          refine V.aload_n X d_Mo_argument_59 rfl ?_
          refine g_Mo_sort X k_Mo_51 d_Mo_argument_60 ?_
          refine V.aload_n X d_Mo_argument_63 rfl ?_
          refine V.iload_n X d_Mo_argument_64 rfl ?_
          refine V.iload_n X d_Mo_argument_65 rfl ?_
          refine V.callV1 X (c_Mo_parameterOf (h + 3)) Y_Mo_parameterOf k_Mo_245 0 rfl rfl rfl rfl rfl (Rok.lt (by omega)) d_Mo_argument_66 ?_
          obtain ⟨g27, hres⟩ := hres
          refine l_Mo_sort (x := ((r_sort S1) (poF p1 p2))) X g27 (congrFun rfl _) d_Mo_argument_69 ?_
          refine V.iconst (v := nI 2) X d_Mo_argument_70 (by decide +kernel) ?_
          obtain ⟨g29, hres⟩ := hres
          refine V.cmpN_ne (tgt := 79) X d_Mo_argument_71 (by decide) (by omega) (by omega) (fun h71_28 => ?_) (fun h71_28 => ?_)
          · replace hres := or_f hres h71_28
            subst hres
            exact V.vret X d_Mo_argument_79 rfl rfl
          · replace hres := or_t hres h71_28
            refine V.aload_n X d_Mo_argument_74 rfl ?_
            refine V.iload_n X d_Mo_argument_75 rfl ?_
            obtain ⟨S30, x30, hres⟩ := hres
            refine V.callV0 X (c_Mo_blame (h + 2) x30) Y_Mo_blame k_Mo_196 0 rfl rfl rfl rfl rfl (Rok.lt (by omega)) d_Mo_argument_76 ?_
            subst hres
            exact V.vret X d_Mo_argument_79 rfl rfl
        · replace hres := or_f hres (Nat.not_lt.mpr h55_24)
          subst hres
          exact V.vret X d_Mo_argument_58 rfl rfl
      · refine V.top (v' := .int (nI t21)) (by rw [qt21]; rfl) ?_
        obtain ⟨g31, hres⟩ := hres
        refine V.ifN_ge (tgt := 58) X d_Mo_argument_40 (by decide) (by omega) ?_
        subst hres
        exact V.vret X d_Mo_argument_58 rfl rfl
    · replace hres := or_t hres h26_18
      refine V.iconst (v := nI 1) X d_Mo_argument_29 (by decide +kernel) ?_
      refine V.goto (tgt := 34) X d_Mo_argument_30 (by decide) ?_
      refine V.istore (lv' := [(0, .ref (b 0)), (1, .int (nI p1)), (2, .int (nI p2)), (3, .int (nI (r_at S))), (4, .int (nI 1))]) X d_Mo_argument_34 (by decide) rfl ?_
      refine V.aload_n X d_Mo_argument_36 rfl ?_
      refine g_Mo_wrong (x := (r_wrong S1)) X rfl k_Mo_187 d_Mo_argument_37 ?_
      rcases hres with ⟨qt33, hres⟩ | ⟨t33, qt33, hres⟩
      · refine V.top (v' := .int (-1)) (by rw [qt33]; rfl) ?_
        refine V.if_ge (tgt := 58) X d_Mo_argument_40 (by decide) (fun h => absurd h (by decide)) (fun _ => ?_)
        refine V.iload X d_Mo_argument_43 rfl ?_
        refine V.ifN_ne (tgt := 58) X d_Mo_argument_45 (by decide) (by decide) (fun _ => ?_) (fun h => absurd h (by decide))
        subst hres
        exact V.vret X d_Mo_argument_58 rfl rfl
      · refine V.top (v' := .int (nI t33)) (by rw [qt33]; rfl) ?_
        obtain ⟨g35, hres⟩ := hres
        refine V.ifN_ge (tgt := 58) X d_Mo_argument_40 (by decide) (by omega) ?_
        subst hres
        exact V.vret X d_Mo_argument_58 rfl rfl
def mo_call_go (p1 : Nat) (p2 : Nat) : Nat → Nat → Nat → MS → MS → Prop
  | 0, _, _, _, _ => False
  | n + 1, _, x3N, S, S' => ∃ v1 S1, mo_take 44 S v1 S1 ∧ ((v1 = true ∧ (∃ S12, mo_argument p2 x3N S1 S12 ∧ (mo_call_go p1 p2 n 0 (x3N + 1) S12 S'))) ∨ (¬ v1 = true ∧ (∃ S3, mo_need 41 S1 S3 ∧ (((r_wrong S3) = none ∧ (p2 < 18 ∧ (x3N < 2147483648 ∧ (((r_wants S3) p2) < 2147483648 ∧ ((x3N = ((r_wants S3) p2) ∧ (S' = S3)) ∨ (¬ x3N = ((r_wants S3) p2) ∧ (∃ S10, mo_blame p1 S3 S10 ∧ (S' = S10)))))))) ∨ (∃ t5, (r_wrong S3) = some t5 ∧ (t5 < 2147483648 ∧ (S' = S3)))))))
def mo_call (p1 : Nat) (p2 : Nat) (S : MS) (S' : MS) : Prop := ∃ v13 S13, mo_take 40 S v13 S13 ∧ ((v13 = true ∧ (∃ S22, mo_argument p2 0 S13 S22 ∧ (∃ n, mo_call_go p1 p2 n 0 1 S22 S'))) ∨ (¬ v13 = true ∧ (((r_wrong S13) = none ∧ (p2 < 18 ∧ (((r_wants S13) p2) < 2147483648 ∧ ((0 = ((r_wants S13) p2) ∧ (S' = S13)) ∨ (¬ 0 = ((r_wants S13) p2) ∧ (∃ S20, mo_blame p1 S13 S20 ∧ (S' = S20))))))) ∨ (∃ t16, (r_wrong S13) = some t16 ∧ (t16 < 2147483648 ∧ (S' = S13))))))
set_option maxHeartbeats 4000000 in
set_option maxRecDepth 100000 in
theorem c_Mo_call {l : Launch} {z : Zt} {b : Nat → Nat} {S : MS} {p1 : Nat} {p2 : Nat} {S' : MS} (h : Nat) (hres : mo_call p1 p2 S S') : XC l (Gz z) (h + 5) y_Mo_call b_Mo_call 4 none [.ref (b 0), .int (nI p1), .int (nI p2)] (mw z b S) (.inl none) (mw z b S') := by
  rw [mo_call] at hres
  refine XC.ofV (by decide +kernel) rfl ?_
  intro p e s m below meth c X hnm
  have go : ∀ n : Nat, (∀ (x3N : Nat) (S : MS), mo_call_go p1 p2 n 0 x3N S S' → V p l e (Rm (h + 5)) s m ([.ref (b 0), .int (nI p1), .int (nI p2)] : List Value).toArray below meth c (Gz z) 4 0 0 (XE below (Gz z) (.inl none) (mw z b S') ([.ref (b 0), .int (nI p1), .int (nI p2)] : List Value).toArray s) (mw z b S) 19 [(0, .ref (b 0)), (1, .int (nI p1)), (2, .int (nI p2)), (3, .int (nI x3N))] []) := by
    intro n
    induction n with
    | zero =>
      skip
      · intro x3N S hres
        exact absurd hres (by simp only [mo_call_go, not_false_eq_true])
    | succ n ih =>
      skip
      · intro x3N S hres
        rw [mo_call_go] at hres
        refine V.aload_n X d_Mo_call_19 rfl ?_
        refine V.bipush (v := nI 44) X d_Mo_call_20 (by decide +kernel) ?_
        obtain ⟨v1, S1, x1, hres⟩ := hres
        refine V.callV1 X (c_Mo_take (h + 3) x1) Y_Mo_take k_Mo_193 0 rfl rfl rfl rfl rfl (Rok.lt (by omega)) d_Mo_call_22 ?_
        refine V.ifB_eq (tgt := 40) X d_Mo_call_25 (by decide) (fun h25_2 => ?_) (fun h25_2 => ?_)
        · replace hres := or_f hres (by rw [h25_2]; decide)
          refine V.aload_n X d_Mo_call_40 rfl ?_
          refine V.bipush (v := nI 41) X d_Mo_call_41 (by decide +kernel) ?_
          obtain ⟨S3, x3, hres⟩ := hres
          refine V.callV0 X (c_Mo_need (h + 2) x3) Y_Mo_need k_Mo_227 0 rfl rfl rfl rfl rfl (Rok.lt (by omega)) d_Mo_call_43 ?_
          refine V.aload_n X d_Mo_call_46 rfl ?_
          refine g_Mo_wrong (x := (r_wrong S3)) X rfl k_Mo_187 d_Mo_call_47 ?_
          rcases hres with ⟨qt5, hres⟩ | ⟨t5, qt5, hres⟩
          · refine V.top (v' := .int (-1)) (by rw [qt5]; rfl) ?_
            refine V.if_ge (tgt := 68) X d_Mo_call_50 (by decide) (fun h => absurd h (by decide)) (fun _ => ?_)
            refine V.iload_n X d_Mo_call_53 rfl ?_
            refine V.aload_n X d_Mo_call_54 rfl ?_
            refine g_Mo_wants X k_Mo_60 d_Mo_call_55 ?_
            refine V.iload_n X d_Mo_call_58 rfl ?_
            obtain ⟨g6, hres⟩ := hres
            refine l_Mo_wants (x := ((r_wants S3) p2)) X g6 (congrFun rfl _) d_Mo_call_59 ?_
            obtain ⟨g8, hres⟩ := hres
            obtain ⟨g9, hres⟩ := hres
            refine V.cmpN_eq (tgt := 68) X d_Mo_call_60 (by decide) (by omega) (by omega) (fun h60_7 => ?_) (fun h60_7 => ?_)
            · replace hres := or_t hres h60_7
              subst hres
              exact V.vret X d_Mo_call_68 rfl rfl
            · replace hres := or_f hres h60_7
              refine V.aload_n X d_Mo_call_63 rfl ?_
              refine V.iload_n X d_Mo_call_64 rfl ?_
              obtain ⟨S10, x10, hres⟩ := hres
              refine V.callV0 X (c_Mo_blame (h + 3) x10) Y_Mo_blame k_Mo_196 0 rfl rfl rfl rfl rfl (Rok.lt (by omega)) d_Mo_call_65 ?_
              subst hres
              exact V.vret X d_Mo_call_68 rfl rfl
          · refine V.top (v' := .int (nI t5)) (by rw [qt5]; rfl) ?_
            obtain ⟨g11, hres⟩ := hres
            refine V.ifN_ge (tgt := 68) X d_Mo_call_50 (by decide) (by omega) ?_
            subst hres
            exact V.vret X d_Mo_call_68 rfl rfl
        · replace hres := or_t hres h25_2
          refine V.aload_n X d_Mo_call_28 rfl ?_
          refine V.iload_n X d_Mo_call_29 rfl ?_
          refine V.iload_n X d_Mo_call_30 rfl ?_
          obtain ⟨S12, x12, hres⟩ := hres
          refine V.callV0 X (c_Mo_argument (h + 0) x12) Y_Mo_argument k_Mo_249 0 rfl rfl rfl rfl rfl (Rok.lt (by omega)) d_Mo_call_31 ?_
          refine V.iinc (lv' := [(0, .ref (b 0)), (1, .int (nI p1)), (2, .int (nI p2)), (3, .int (nI (x3N + 1)))]) X d_Mo_call_34 rfl (show _ + nI 1 = _ from nI_add _ 1) (by decide) rfl ?_
          refine V.goto (tgt := 19) X d_Mo_call_37 (by decide) ?_
          refine V.lvs (lv' := [(0, .ref (b 0)), (1, .int (nI p1)), (2, .int (nI p2)), (3, .int (nI (x3N + 1)))]) rfl ?_
          exact ih _ S12 hres
  refine V.lvs (lv' := [(0, .ref (b 0)), (1, .int (nI p1)), (2, .int (nI p2))]) rfl ?_
  refine V.iconst (v := nI 0) X d_Mo_call_0 (by decide +kernel) ?_
  refine V.istore_n (lv' := [(0, .ref (b 0)), (1, .int (nI p1)), (2, .int (nI p2)), (3, .int (nI 0))]) X d_Mo_call_1 (by decide) rfl ?_
  refine V.aload_n X d_Mo_call_2 rfl ?_
  refine V.bipush (v := nI 40) X d_Mo_call_3 (by decide +kernel) ?_
  obtain ⟨v13, S13, x13, hres⟩ := hres
  refine V.callV1 X (c_Mo_take (h + 3) x13) Y_Mo_take k_Mo_193 0 rfl rfl rfl rfl rfl (Rok.lt (by omega)) d_Mo_call_5 ?_
  refine V.ifB_eq (tgt := 46) X d_Mo_call_8 (by decide) (fun h8_14 => ?_) (fun h8_14 => ?_)
  · replace hres := or_f hres (by rw [h8_14]; decide)
    refine V.aload_n X d_Mo_call_46 rfl ?_
    refine g_Mo_wrong (x := (r_wrong S13)) X rfl k_Mo_187 d_Mo_call_47 ?_
    rcases hres with ⟨qt16, hres⟩ | ⟨t16, qt16, hres⟩
    · refine V.top (v' := .int (-1)) (by rw [qt16]; rfl) ?_
      refine V.if_ge (tgt := 68) X d_Mo_call_50 (by decide) (fun h => absurd h (by decide)) (fun _ => ?_)
      refine V.iload_n X d_Mo_call_53 rfl ?_
      refine V.aload_n X d_Mo_call_54 rfl ?_
      refine g_Mo_wants X k_Mo_60 d_Mo_call_55 ?_
      refine V.iload_n X d_Mo_call_58 rfl ?_
      obtain ⟨g17, hres⟩ := hres
      refine l_Mo_wants (x := ((r_wants S13) p2)) X g17 (congrFun rfl _) d_Mo_call_59 ?_
      obtain ⟨g19, hres⟩ := hres
      refine V.cmpN_eq (tgt := 68) X d_Mo_call_60 (by decide) (by omega) (by omega) (fun h60_18 => ?_) (fun h60_18 => ?_)
      · replace hres := or_t hres h60_18
        subst hres
        exact V.vret X d_Mo_call_68 rfl rfl
      · replace hres := or_f hres h60_18
        refine V.aload_n X d_Mo_call_63 rfl ?_
        refine V.iload_n X d_Mo_call_64 rfl ?_
        obtain ⟨S20, x20, hres⟩ := hres
        refine V.callV0 X (c_Mo_blame (h + 3) x20) Y_Mo_blame k_Mo_196 0 rfl rfl rfl rfl rfl (Rok.lt (by omega)) d_Mo_call_65 ?_
        subst hres
        exact V.vret X d_Mo_call_68 rfl rfl
    · refine V.top (v' := .int (nI t16)) (by rw [qt16]; rfl) ?_
      obtain ⟨g21, hres⟩ := hres
      refine V.ifN_ge (tgt := 68) X d_Mo_call_50 (by decide) (by omega) ?_
      subst hres
      exact V.vret X d_Mo_call_68 rfl rfl
  · replace hres := or_t hres h8_14
    refine V.aload_n X d_Mo_call_11 rfl ?_
    refine V.iload_n X d_Mo_call_12 rfl ?_
    refine V.iconst (v := nI 0) X d_Mo_call_13 (by decide +kernel) ?_
    obtain ⟨S22, x22, hres⟩ := hres
    refine V.callV0 X (c_Mo_argument (h + 0) x22) Y_Mo_argument k_Mo_249 0 rfl rfl rfl rfl rfl (Rok.lt (by omega)) d_Mo_call_14 ?_
    refine V.iconst (v := nI 1) X d_Mo_call_17 (by decide +kernel) ?_
    refine V.istore_n (lv' := [(0, .ref (b 0)), (1, .int (nI p1)), (2, .int (nI p2)), (3, .int (nI 1))]) X d_Mo_call_18 (by decide) rfl ?_
    refine V.lvs (lv' := [(0, .ref (b 0)), (1, .int (nI p1)), (2, .int (nI p2)), (3, .int (nI 1))]) rfl ?_
    obtain ⟨n, hres⟩ := hres
    exact (go n) _ S22 hres
def mo_deeper (p1 : Nat) (p2 : Nat) (S : MS) (S' : MS) : Prop := (r_deep S) < 2147483648 ∧ (((r_deep S) = 8 ∧ (∃ S5, mo_blame p2 S S5 ∧ (S' = S5))) ∨ (¬ (r_deep S) = 8 ∧ ((r_deep S) < 10 ∧ ((r_deep S) < 10 ∧ (S' = (w_deep (w_since (w_within S (va_up (r_within S) (r_deep S) p1)) (va_up (r_since S) (r_deep S) p2)) ((r_deep S) + 1)))))))
set_option maxHeartbeats 4000000 in
set_option maxRecDepth 100000 in
theorem c_Mo_deeper {l : Launch} {z : Zt} {b : Nat → Nat} {S : MS} {p1 : Nat} {p2 : Nat} {S' : MS} (h : Nat) (hres : mo_deeper p1 p2 S S') : XC l (Gz z) (h + 2) y_Mo_deeper b_Mo_deeper 3 none [.ref (b 0), .int (nI p1), .int (nI p2)] (mw z b S) (.inl none) (mw z b S') := by
  rw [mo_deeper] at hres
  refine XC.ofV (by decide +kernel) rfl ?_
  intro p e s m below meth c X hnm
  refine V.lvs (lv' := [(0, .ref (b 0)), (1, .int (nI p1)), (2, .int (nI p2))]) rfl ?_
  refine V.aload_n X d_Mo_deeper_0 rfl ?_
  refine g_Mo_deep (x := (r_deep S)) X rfl k_Mo_253 d_Mo_deeper_1 ?_
  refine V.bipush (v := nI 8) X d_Mo_deeper_4 (by decide +kernel) ?_
  obtain ⟨g2, hres⟩ := hres
  refine V.cmpN_ne (tgt := 15) X d_Mo_deeper_6 (by decide) (by omega) (by omega) (fun h6_1 => ?_) (fun h6_1 => ?_)
  · replace hres := or_f hres h6_1
    refine V.aload_n X d_Mo_deeper_15 rfl ?_
    refine g_Mo_within X k_Mo_84 d_Mo_deeper_16 ?_
    refine V.aload_n X d_Mo_deeper_19 rfl ?_
    refine g_Mo_deep (x := (r_deep S)) X rfl k_Mo_253 d_Mo_deeper_20 ?_
    refine V.iload_n X d_Mo_deeper_23 rfl ?_
    obtain ⟨g3, hres⟩ := hres
    refine s_Mo_within (g := (r_within S)) X g3 rfl d_Mo_deeper_24 ?_
    refine V.aload_n X d_Mo_deeper_25 rfl ?_
    refine g_Mo_since X k_Mo_87 d_Mo_deeper_26 ?_
    refine V.aload_n X d_Mo_deeper_29 rfl ?_
    refine g_Mo_deep (x := (r_deep S)) X (rw_deep_within _ _) k_Mo_253 d_Mo_deeper_30 ?_
    refine V.iload_n X d_Mo_deeper_33 rfl ?_
    obtain ⟨g4, hres⟩ := hres
    refine s_Mo_since (g := (r_since S)) X g4 (rw_since_within _ _) d_Mo_deeper_34 ?_
    refine V.aload_n X d_Mo_deeper_35 rfl ?_
    refine V.dup X d_Mo_deeper_36 rfl ?_
    refine g_Mo_deep (x := (r_deep S)) X (Eq.trans (rw_deep_since _ _) (rw_deep_within _ _)) k_Mo_253 d_Mo_deeper_37 ?_
    refine V.iconst (v := nI 1) X d_Mo_deeper_40 (by decide +kernel) ?_
    refine V.iadd X d_Mo_deeper_41 (nI_add _ _) ?_
    refine p_Mo_deep X k_Mo_253 d_Mo_deeper_42 ?_
    subst hres
    exact V.vret X d_Mo_deeper_45 rfl rfl
  · replace hres := or_t hres h6_1
    refine V.aload_n X d_Mo_deeper_9 rfl ?_
    refine V.iload_n X d_Mo_deeper_10 rfl ?_
    obtain ⟨S5, x5, hres⟩ := hres
    refine V.callV0 X (c_Mo_blame (h + 0) x5) Y_Mo_blame k_Mo_196 0 rfl rfl rfl rfl rfl (Rok.lt (by omega)) d_Mo_deeper_11 ?_
    subst hres
    exact V.vret X d_Mo_deeper_14 rfl rfl
def mo_beginStatement (S : MS) (v : Bool) (S' : MS) : Prop := (r_at S) < 155 ∧ (((r_kind S) (r_at S)) < 2147483648 ∧ ((((r_kind S) (r_at S)) = 1 ∧ (∃ v88 S88, mo_find (r_at S) S v88 S88 ∧ (((r_at S) + 1) < 155 ∧ (((r_kind S88) ((r_at S) + 1)) < 2147483648 ∧ ((((r_kind S88) ((r_at S) + 1)) = 13 ∧ ((v88 = none ∧ (∃ S108, mo_blame (r_at S) S88 S108 ∧ (v = true ∧ S' = S108))) ∨ (∃ t107, v88 = some t107 ∧ (t107 < 2147483648 ∧ (t107 < 18 ∧ (((r_sort S88) t107) < 2147483648 ∧ ((((r_sort S88) t107) = 3 ∧ (∃ S119, mo_blame (r_at S) S88 S119 ∧ (v = true ∧ S' = S119))) ∨ (¬ ((r_sort S88) t107) = 3 ∧ ((r_at S) < 155 ∧ (∃ S117, mo_expression (w_at (w_means S88 (va_up (r_means S88) (r_at S) t107)) ((r_at S88) + 2)) S117 ∧ (v = true ∧ S' = S117))))))))))) ∨ (¬ ((r_kind S88) ((r_at S) + 1)) = 13 ∧ ((v88 = none ∧ (∃ S94, mo_blame (r_at S) S88 S94 ∧ (v = true ∧ S' = S94))) ∨ (∃ t93, v88 = some t93 ∧ (t93 < 2147483648 ∧ (t93 < 18 ∧ (((r_sort S88) t93) < 2147483648 ∧ ((((r_sort S88) t93) = 3 ∧ ((r_at S) < 155 ∧ (∃ S105, mo_call (r_at S) t93 (w_at (w_means S88 (va_up (r_means S88) (r_at S) t93)) ((r_at S88) + 1)) S105 ∧ (v = true ∧ S' = S105)))) ∨ (¬ ((r_sort S88) t93) = 3 ∧ (∃ S100, mo_blame (r_at S) S88 S100 ∧ (v = true ∧ S' = S100))))))))))))))) ∨ (¬ ((r_kind S) (r_at S)) = 1 ∧ (∃ v4 S4, mo_take 12 S v4 S4 ∧ ((v4 = true ∧ (∃ S85, mo_need 40 S4 S85 ∧ (∃ S86, mo_expression S85 S86 ∧ (∃ S87, mo_need 41 S86 S87 ∧ (v = true ∧ S' = S87))))) ∨ (¬ v4 = true ∧ ((r_at S) < 155 ∧ (((r_kind S4) (r_at S)) < 2147483648 ∧ ((((r_kind S4) (r_at S)) = 5 ∧ ((r_at S) < 155 ∧ (∃ S10, mo_deeper ((r_kind S4) (r_at S)) (r_at S) S4 S10 ∧ (((r_wrong S10) = none ∧ ((r_at S) < 155 ∧ (((r_kind S10) (r_at S)) < 2147483648 ∧ ((((r_kind S10) (r_at S)) = 5 ∧ ((r_at S) < 155 ∧ ((r_at S) < 155 ∧ (v = false ∧ S' = (w_at S10 ((r_at S10) + 1)))))) ∨ (¬ ((r_kind S10) (r_at S)) = 5 ∧ (∃ S20, mo_condition (w_at S10 ((r_at S10) + 1)) S20 ∧ ((r_at S) < 155 ∧ (((r_kind S20) (r_at S)) < 2147483648 ∧ ((((r_kind S20) (r_at S)) = 7 ∧ (∃ S27, mo_need 8 S20 S27 ∧ ((r_at S) < 155 ∧ (((r_kind S27) (r_at S)) < 2147483648 ∧ ((((r_kind S27) (r_at S)) = 10 ∧ (∃ S31, mo_need 11 S27 S31 ∧ (v = false ∧ S' = S31))) ∨ (¬ ((r_kind S27) (r_at S)) = 10 ∧ (v = false ∧ S' = S27))))))) ∨ (¬ ((r_kind S20) (r_at S)) = 7 ∧ ((r_at S) < 155 ∧ ((((r_kind S20) (r_at S)) = 10 ∧ (∃ S26, mo_need 11 S20 S26 ∧ (v = false ∧ S' = S26))) ∨ (¬ ((r_kind S20) (r_at S)) = 10 ∧ (v = false ∧ S' = S20)))))))))))))) ∨ (∃ t12, (r_wrong S10) = some t12 ∧ (t12 < 2147483648 ∧ (v = true ∧ S' = S10))))))) ∨ (¬ ((r_kind S4) (r_at S)) = 5 ∧ ((r_at S) < 155 ∧ ((((r_kind S4) (r_at S)) = 7 ∧ ((r_at S) < 155 ∧ (∃ S36, mo_deeper ((r_kind S4) (r_at S)) (r_at S) S4 S36 ∧ (((r_wrong S36) = none ∧ ((r_at S) < 155 ∧ (((r_kind S36) (r_at S)) < 2147483648 ∧ ((((r_kind S36) (r_at S)) = 5 ∧ ((r_at S) < 155 ∧ ((r_at S) < 155 ∧ (v = false ∧ S' = (w_at S36 ((r_at S36) + 1)))))) ∨ (¬ ((r_kind S36) (r_at S)) = 5 ∧ (∃ S46, mo_condition (w_at S36 ((r_at S36) + 1)) S46 ∧ ((r_at S) < 155 ∧ (((r_kind S46) (r_at S)) < 2147483648 ∧ ((((r_kind S46) (r_at S)) = 7 ∧ (∃ S53, mo_need 8 S46 S53 ∧ ((r_at S) < 155 ∧ (((r_kind S53) (r_at S)) < 2147483648 ∧ ((((r_kind S53) (r_at S)) = 10 ∧ (∃ S57, mo_need 11 S53 S57 ∧ (v = false ∧ S' = S57))) ∨ (¬ ((r_kind S53) (r_at S)) = 10 ∧ (v = false ∧ S' = S53))))))) ∨ (¬ ((r_kind S46) (r_at S)) = 7 ∧ ((r_at S) < 155 ∧ ((((r_kind S46) (r_at S)) = 10 ∧ (∃ S52, mo_need 11 S46 S52 ∧ (v = false ∧ S' = S52))) ∨ (¬ ((r_kind S46) (r_at S)) = 10 ∧ (v = false ∧ S' = S46)))))))))))))) ∨ (∃ t38, (r_wrong S36) = some t38 ∧ (t38 < 2147483648 ∧ (v = true ∧ S' = S36))))))) ∨ (¬ ((r_kind S4) (r_at S)) = 7 ∧ ((r_at S) < 155 ∧ ((((r_kind S4) (r_at S)) = 10 ∧ ((r_at S) < 155 ∧ (∃ S62, mo_deeper ((r_kind S4) (r_at S)) (r_at S) S4 S62 ∧ (((r_wrong S62) = none ∧ ((r_at S) < 155 ∧ (((r_kind S62) (r_at S)) < 2147483648 ∧ ((((r_kind S62) (r_at S)) = 5 ∧ ((r_at S) < 155 ∧ ((r_at S) < 155 ∧ (v = false ∧ S' = (w_at S62 ((r_at S62) + 1)))))) ∨ (¬ ((r_kind S62) (r_at S)) = 5 ∧ (∃ S72, mo_condition (w_at S62 ((r_at S62) + 1)) S72 ∧ ((r_at S) < 155 ∧ (((r_kind S72) (r_at S)) < 2147483648 ∧ ((((r_kind S72) (r_at S)) = 7 ∧ (∃ S79, mo_need 8 S72 S79 ∧ ((r_at S) < 155 ∧ (((r_kind S79) (r_at S)) < 2147483648 ∧ ((((r_kind S79) (r_at S)) = 10 ∧ (∃ S83, mo_need 11 S79 S83 ∧ (v = false ∧ S' = S83))) ∨ (¬ ((r_kind S79) (r_at S)) = 10 ∧ (v = false ∧ S' = S79))))))) ∨ (¬ ((r_kind S72) (r_at S)) = 7 ∧ ((r_at S) < 155 ∧ ((((r_kind S72) (r_at S)) = 10 ∧ (∃ S78, mo_need 11 S72 S78 ∧ (v = false ∧ S' = S78))) ∨ (¬ ((r_kind S72) (r_at S)) = 10 ∧ (v = false ∧ S' = S72)))))))))))))) ∨ (∃ t64, (r_wrong S62) = some t64 ∧ (t64 < 2147483648 ∧ (v = true ∧ S' = S62))))))) ∨ (¬ ((r_kind S4) (r_at S)) = 10 ∧ (v = true ∧ S' = S4)))))))))))))))))
set_option maxHeartbeats 4000000 in
set_option maxRecDepth 100000 in
theorem c_Mo_beginStatement {l : Launch} {z : Zt} {b : Nat → Nat} {S : MS} {v : Bool} {S' : MS} (h : Nat) (hres : mo_beginStatement S v S') : XC l (Gz z) (h + 6) y_Mo_beginStatement b_Mo_beginStatement 4 (some .boolean) [.ref (b 0)] (mw z b S) (.inl (some (.int (bI v)))) (mw z b S') := by
  rw [mo_beginStatement] at hres
  refine XC.ofV (by decide +kernel) rfl ?_
  intro p e s m below meth c X hnm
  refine V.lvs (lv' := [(0, .ref (b 0))]) rfl ?_
  refine V.aload_n X d_Mo_beginStatement_0 rfl ?_
  refine g_Mo_at (x := (r_at S)) X rfl k_Mo_190 d_Mo_beginStatement_1 ?_
  refine V.istore_n (lv' := [(0, .ref (b 0)), (1, .int (nI (r_at S)))]) X d_Mo_beginStatement_4 (by decide) rfl ?_
  refine V.aload_n X d_Mo_beginStatement_5 rfl ?_
  refine g_Mo_kind X k_Mo_13 d_Mo_beginStatement_6 ?_
  refine V.iload_n X d_Mo_beginStatement_9 rfl ?_
  obtain ⟨g1, hres⟩ := hres
  refine l_Mo_kind (x := ((r_kind S) (r_at S))) X g1 (congrFun rfl _) d_Mo_beginStatement_10 ?_
  refine V.iconst (v := nI 1) X d_Mo_beginStatement_11 (by decide +kernel) ?_
  obtain ⟨g3, hres⟩ := hres
  refine V.cmpN_ne (tgt := 114) X d_Mo_beginStatement_12 (by decide) (by omega) (by omega) (fun h12_2 => ?_) (fun h12_2 => ?_)
  · replace hres := or_f hres h12_2
    refine V.aload_n X d_Mo_beginStatement_114 rfl ?_
    refine V.bipush (v := nI 12) X d_Mo_beginStatement_115 (by decide +kernel) ?_
    obtain ⟨v4, S4, x4, hres⟩ := hres
    refine V.callV1 X (c_Mo_take (h + 4) x4) Y_Mo_take k_Mo_193 0 rfl rfl rfl rfl rfl (Rok.lt (by omega)) d_Mo_beginStatement_117 ?_
    refine V.ifB_eq (tgt := 141) X d_Mo_beginStatement_120 (by decide) (fun h120_5 => ?_) (fun h120_5 => ?_)
    · replace hres := or_f hres (by rw [h120_5]; decide)
      refine V.aload_n X d_Mo_beginStatement_141 rfl ?_
      refine g_Mo_kind X k_Mo_13 d_Mo_beginStatement_142 ?_
      refine V.iload_n X d_Mo_beginStatement_145 rfl ?_
      obtain ⟨g6, hres⟩ := hres
      refine l_Mo_kind (x := ((r_kind S4) (r_at S))) X g6 (congrFun rfl _) d_Mo_beginStatement_146 ?_
      refine V.iconst (v := nI 5) X d_Mo_beginStatement_147 (by decide +kernel) ?_
      obtain ⟨g8, hres⟩ := hres
      refine V.cmpN_eq (tgt := 175) X d_Mo_beginStatement_148 (by decide) (by omega) (by omega) (fun h148_7 => ?_) (fun h148_7 => ?_)
      · replace hres := or_t hres h148_7
        refine V.aload_n X d_Mo_beginStatement_175 rfl ?_
        refine V.aload_n X d_Mo_beginStatement_176 rfl ?_
        refine g_Mo_kind X k_Mo_13 d_Mo_beginStatement_177 ?_
        refine V.iload_n X d_Mo_beginStatement_180 rfl ?_
        obtain ⟨g9, hres⟩ := hres
        refine l_Mo_kind (x := ((r_kind S4) (r_at S))) X g9 (congrFun rfl _) d_Mo_beginStatement_181 ?_
        refine V.iload_n X d_Mo_beginStatement_182 rfl ?_
        obtain ⟨S10, x10, hres⟩ := hres
        refine V.callV0 X (c_Mo_deeper (h + 3) x10) Y_Mo_deeper k_Mo_259 0 rfl rfl rfl rfl rfl (Rok.lt (by omega)) d_Mo_beginStatement_183 ?_
        refine V.aload_n X d_Mo_beginStatement_186 rfl ?_
        refine g_Mo_wrong (x := (r_wrong S10)) X rfl k_Mo_187 d_Mo_beginStatement_187 ?_
        rcases hres with ⟨qt12, hres⟩ | ⟨t12, qt12, hres⟩
        · refine V.top (v' := .int (-1)) (by rw [qt12]; rfl) ?_
          refine V.if_lt (tgt := 195) X d_Mo_beginStatement_190 (by decide) (fun _ => ?_) (fun h => absurd (by decide) h)
          refine V.aload_n X d_Mo_beginStatement_195 rfl ?_
          refine V.dup X d_Mo_beginStatement_196 rfl ?_
          refine g_Mo_at (x := (r_at S10)) X rfl k_Mo_190 d_Mo_beginStatement_197 ?_
          refine V.iconst (v := nI 1) X d_Mo_beginStatement_200 (by decide +kernel) ?_
          refine V.iadd X d_Mo_beginStatement_201 (nI_add _ _) ?_
          refine p_Mo_at X k_Mo_190 d_Mo_beginStatement_202 ?_
          refine V.aload_n X d_Mo_beginStatement_205 rfl ?_
          refine g_Mo_kind X k_Mo_13 d_Mo_beginStatement_206 ?_
          refine V.iload_n X d_Mo_beginStatement_209 rfl ?_
          obtain ⟨g13, hres⟩ := hres
          refine l_Mo_kind (x := ((r_kind S10) (r_at S))) X g13 (congrFun (rw_kind_at _ _) _) d_Mo_beginStatement_210 ?_
          refine V.iconst (v := nI 5) X d_Mo_beginStatement_211 (by decide +kernel) ?_
          obtain ⟨g15, hres⟩ := hres
          refine V.cmpN_eq (tgt := 219) X d_Mo_beginStatement_212 (by decide) (by omega) (by omega) (fun h212_14 => ?_) (fun h212_14 => ?_)
          · replace hres := or_t hres h212_14
            refine V.aload_n X d_Mo_beginStatement_219 rfl ?_
            refine g_Mo_kind X k_Mo_13 d_Mo_beginStatement_220 ?_
            refine V.iload_n X d_Mo_beginStatement_223 rfl ?_
            obtain ⟨g16, hres⟩ := hres
            refine l_Mo_kind (x := ((r_kind S10) (r_at S))) X g16 (congrFun (rw_kind_at _ _) _) d_Mo_beginStatement_224 ?_
            refine V.bipush (v := nI 7) X d_Mo_beginStatement_225 (by decide +kernel) ?_
            refine V.cmpN_ne (tgt := 236) X d_Mo_beginStatement_227 (by decide) (by omega) (by omega) (fun _ => ?_) (fun h => absurd h (by omega))
            refine V.aload_n X d_Mo_beginStatement_236 rfl ?_
            refine g_Mo_kind X k_Mo_13 d_Mo_beginStatement_237 ?_
            refine V.iload_n X d_Mo_beginStatement_240 rfl ?_
            obtain ⟨g18, hres⟩ := hres
            refine l_Mo_kind (x := ((r_kind S10) (r_at S))) X g18 (congrFun (rw_kind_at _ _) _) d_Mo_beginStatement_241 ?_
            refine V.bipush (v := nI 10) X d_Mo_beginStatement_242 (by decide +kernel) ?_
            refine V.cmpN_ne (tgt := 253) X d_Mo_beginStatement_244 (by decide) (by omega) (by omega) (fun _ => ?_) (fun h => absurd h (by omega))
            refine V.iconst (v := nI 0) X d_Mo_beginStatement_253 (by decide +kernel) ?_
            obtain ⟨rfl, rfl⟩ := hres
            exact V.zret X d_Mo_beginStatement_254 (by first | exact Or.inl rfl | exact Or.inr rfl | (unfold bI; split; exact Or.inr rfl; exact Or.inl rfl)) rfl rfl
          · replace hres := or_f hres h212_14
            refine V.aload_n X d_Mo_beginStatement_215 rfl ?_
            obtain ⟨S20, x20, hres⟩ := hres
            refine V.callV0 X (c_Mo_condition (h + 1) x20) Y_Mo_condition k_Mo_262 0 rfl rfl rfl rfl rfl (Rok.lt (by omega)) d_Mo_beginStatement_216 ?_
            refine V.aload_n X d_Mo_beginStatement_219 rfl ?_
            refine g_Mo_kind X k_Mo_13 d_Mo_beginStatement_220 ?_
            refine V.iload_n X d_Mo_beginStatement_223 rfl ?_
            obtain ⟨g21, hres⟩ := hres
            refine l_Mo_kind (x := ((r_kind S20) (r_at S))) X g21 (congrFun rfl _) d_Mo_beginStatement_224 ?_
            refine V.bipush (v := nI 7) X d_Mo_beginStatement_225 (by decide +kernel) ?_
            obtain ⟨g23, hres⟩ := hres
            refine V.cmpN_ne (tgt := 236) X d_Mo_beginStatement_227 (by decide) (by omega) (by omega) (fun h227_22 => ?_) (fun h227_22 => ?_)
            · replace hres := or_f hres h227_22
              refine V.aload_n X d_Mo_beginStatement_236 rfl ?_
              refine g_Mo_kind X k_Mo_13 d_Mo_beginStatement_237 ?_
              refine V.iload_n X d_Mo_beginStatement_240 rfl ?_
              obtain ⟨g24, hres⟩ := hres
              refine l_Mo_kind (x := ((r_kind S20) (r_at S))) X g24 (congrFun rfl _) d_Mo_beginStatement_241 ?_
              refine V.bipush (v := nI 10) X d_Mo_beginStatement_242 (by decide +kernel) ?_
              refine V.cmpN_ne (tgt := 253) X d_Mo_beginStatement_244 (by decide) (by omega) (by omega) (fun h244_25 => ?_) (fun h244_25 => ?_)
              · replace hres := or_f hres h244_25
                refine V.iconst (v := nI 0) X d_Mo_beginStatement_253 (by decide +kernel) ?_
                obtain ⟨rfl, rfl⟩ := hres
                exact V.zret X d_Mo_beginStatement_254 (by first | exact Or.inl rfl | exact Or.inr rfl | (unfold bI; split; exact Or.inr rfl; exact Or.inl rfl)) rfl rfl
              · replace hres := or_t hres h244_25
                refine V.aload_n X d_Mo_beginStatement_247 rfl ?_
                refine V.bipush (v := nI 11) X d_Mo_beginStatement_248 (by decide +kernel) ?_
                obtain ⟨S26, x26, hres⟩ := hres
                refine V.callV0 X (c_Mo_need (h + 3) x26) Y_Mo_need k_Mo_227 0 rfl rfl rfl rfl rfl (Rok.lt (by omega)) d_Mo_beginStatement_250 ?_
                refine V.iconst (v := nI 0) X d_Mo_beginStatement_253 (by decide +kernel) ?_
                obtain ⟨rfl, rfl⟩ := hres
                exact V.zret X d_Mo_beginStatement_254 (by first | exact Or.inl rfl | exact Or.inr rfl | (unfold bI; split; exact Or.inr rfl; exact Or.inl rfl)) rfl rfl
            · replace hres := or_t hres h227_22
              refine V.aload_n X d_Mo_beginStatement_230 rfl ?_
              refine V.bipush (v := nI 8) X d_Mo_beginStatement_231 (by decide +kernel) ?_
              obtain ⟨S27, x27, hres⟩ := hres
              refine V.callV0 X (c_Mo_need (h + 3) x27) Y_Mo_need k_Mo_227 0 rfl rfl rfl rfl rfl (Rok.lt (by omega)) d_Mo_beginStatement_233 ?_
              refine V.aload_n X d_Mo_beginStatement_236 rfl ?_
              refine g_Mo_kind X k_Mo_13 d_Mo_beginStatement_237 ?_
              refine V.iload_n X d_Mo_beginStatement_240 rfl ?_
              obtain ⟨g28, hres⟩ := hres
              refine l_Mo_kind (x := ((r_kind S27) (r_at S))) X g28 (congrFun rfl _) d_Mo_beginStatement_241 ?_
              refine V.bipush (v := nI 10) X d_Mo_beginStatement_242 (by decide +kernel) ?_
              obtain ⟨g30, hres⟩ := hres
              refine V.cmpN_ne (tgt := 253) X d_Mo_beginStatement_244 (by decide) (by omega) (by omega) (fun h244_29 => ?_) (fun h244_29 => ?_)
              · replace hres := or_f hres h244_29
                refine V.iconst (v := nI 0) X d_Mo_beginStatement_253 (by decide +kernel) ?_
                obtain ⟨rfl, rfl⟩ := hres
                exact V.zret X d_Mo_beginStatement_254 (by first | exact Or.inl rfl | exact Or.inr rfl | (unfold bI; split; exact Or.inr rfl; exact Or.inl rfl)) rfl rfl
              · replace hres := or_t hres h244_29
                refine V.aload_n X d_Mo_beginStatement_247 rfl ?_
                refine V.bipush (v := nI 11) X d_Mo_beginStatement_248 (by decide +kernel) ?_
                obtain ⟨S31, x31, hres⟩ := hres
                refine V.callV0 X (c_Mo_need (h + 3) x31) Y_Mo_need k_Mo_227 0 rfl rfl rfl rfl rfl (Rok.lt (by omega)) d_Mo_beginStatement_250 ?_
                refine V.iconst (v := nI 0) X d_Mo_beginStatement_253 (by decide +kernel) ?_
                obtain ⟨rfl, rfl⟩ := hres
                exact V.zret X d_Mo_beginStatement_254 (by first | exact Or.inl rfl | exact Or.inr rfl | (unfold bI; split; exact Or.inr rfl; exact Or.inl rfl)) rfl rfl
        · refine V.top (v' := .int (nI t12)) (by rw [qt12]; rfl) ?_
          obtain ⟨g32, hres⟩ := hres
          refine V.ifN_lt (tgt := 195) X d_Mo_beginStatement_190 (by decide) (by omega) ?_
          refine V.iconst (v := nI 1) X d_Mo_beginStatement_193 (by decide +kernel) ?_
          obtain ⟨rfl, rfl⟩ := hres
          exact V.zret X d_Mo_beginStatement_194 (by first | exact Or.inl rfl | exact Or.inr rfl | (unfold bI; split; exact Or.inr rfl; exact Or.inl rfl)) rfl rfl
      · replace hres := or_f hres h148_7
        refine V.aload_n X d_Mo_beginStatement_151 rfl ?_
        refine g_Mo_kind X k_Mo_13 d_Mo_beginStatement_152 ?_
        refine V.iload_n X d_Mo_beginStatement_155 rfl ?_
        obtain ⟨g33, hres⟩ := hres
        refine l_Mo_kind (x := ((r_kind S4) (r_at S))) X g33 (congrFun rfl _) d_Mo_beginStatement_156 ?_
        refine V.bipush (v := nI 7) X d_Mo_beginStatement_157 (by decide +kernel) ?_
        refine V.cmpN_eq (tgt := 175) X d_Mo_beginStatement_159 (by decide) (by omega) (by omega) (fun h159_34 => ?_) (fun h159_34 => ?_)
        · replace hres := or_t hres h159_34
          refine V.aload_n X d_Mo_beginStatement_175 rfl ?_
          refine V.aload_n X d_Mo_beginStatement_176 rfl ?_
          refine g_Mo_kind X k_Mo_13 d_Mo_beginStatement_177 ?_
          refine V.iload_n X d_Mo_beginStatement_180 rfl ?_
          obtain ⟨g35, hres⟩ := hres
          refine l_Mo_kind (x := ((r_kind S4) (r_at S))) X g35 (congrFun rfl _) d_Mo_beginStatement_181 ?_
          refine V.iload_n X d_Mo_beginStatement_182 rfl ?_
          obtain ⟨S36, x36, hres⟩ := hres
          refine V.callV0 X (c_Mo_deeper (h + 3) x36) Y_Mo_deeper k_Mo_259 0 rfl rfl rfl rfl rfl (Rok.lt (by omega)) d_Mo_beginStatement_183 ?_
          refine V.aload_n X d_Mo_beginStatement_186 rfl ?_
          refine g_Mo_wrong (x := (r_wrong S36)) X rfl k_Mo_187 d_Mo_beginStatement_187 ?_
          rcases hres with ⟨qt38, hres⟩ | ⟨t38, qt38, hres⟩
          · refine V.top (v' := .int (-1)) (by rw [qt38]; rfl) ?_
            refine V.if_lt (tgt := 195) X d_Mo_beginStatement_190 (by decide) (fun _ => ?_) (fun h => absurd (by decide) h)
            refine V.aload_n X d_Mo_beginStatement_195 rfl ?_
            refine V.dup X d_Mo_beginStatement_196 rfl ?_
            refine g_Mo_at (x := (r_at S36)) X rfl k_Mo_190 d_Mo_beginStatement_197 ?_
            refine V.iconst (v := nI 1) X d_Mo_beginStatement_200 (by decide +kernel) ?_
            refine V.iadd X d_Mo_beginStatement_201 (nI_add _ _) ?_
            refine p_Mo_at X k_Mo_190 d_Mo_beginStatement_202 ?_
            refine V.aload_n X d_Mo_beginStatement_205 rfl ?_
            refine g_Mo_kind X k_Mo_13 d_Mo_beginStatement_206 ?_
            refine V.iload_n X d_Mo_beginStatement_209 rfl ?_
            obtain ⟨g39, hres⟩ := hres
            refine l_Mo_kind (x := ((r_kind S36) (r_at S))) X g39 (congrFun (rw_kind_at _ _) _) d_Mo_beginStatement_210 ?_
            refine V.iconst (v := nI 5) X d_Mo_beginStatement_211 (by decide +kernel) ?_
            obtain ⟨g41, hres⟩ := hres
            refine V.cmpN_eq (tgt := 219) X d_Mo_beginStatement_212 (by decide) (by omega) (by omega) (fun h212_40 => ?_) (fun h212_40 => ?_)
            · replace hres := or_t hres h212_40
              refine V.aload_n X d_Mo_beginStatement_219 rfl ?_
              refine g_Mo_kind X k_Mo_13 d_Mo_beginStatement_220 ?_
              refine V.iload_n X d_Mo_beginStatement_223 rfl ?_
              obtain ⟨g42, hres⟩ := hres
              refine l_Mo_kind (x := ((r_kind S36) (r_at S))) X g42 (congrFun (rw_kind_at _ _) _) d_Mo_beginStatement_224 ?_
              refine V.bipush (v := nI 7) X d_Mo_beginStatement_225 (by decide +kernel) ?_
              refine V.cmpN_ne (tgt := 236) X d_Mo_beginStatement_227 (by decide) (by omega) (by omega) (fun _ => ?_) (fun h => absurd h (by omega))
              refine V.aload_n X d_Mo_beginStatement_236 rfl ?_
              refine g_Mo_kind X k_Mo_13 d_Mo_beginStatement_237 ?_
              refine V.iload_n X d_Mo_beginStatement_240 rfl ?_
              obtain ⟨g44, hres⟩ := hres
              refine l_Mo_kind (x := ((r_kind S36) (r_at S))) X g44 (congrFun (rw_kind_at _ _) _) d_Mo_beginStatement_241 ?_
              refine V.bipush (v := nI 10) X d_Mo_beginStatement_242 (by decide +kernel) ?_
              refine V.cmpN_ne (tgt := 253) X d_Mo_beginStatement_244 (by decide) (by omega) (by omega) (fun _ => ?_) (fun h => absurd h (by omega))
              refine V.iconst (v := nI 0) X d_Mo_beginStatement_253 (by decide +kernel) ?_
              obtain ⟨rfl, rfl⟩ := hres
              exact V.zret X d_Mo_beginStatement_254 (by first | exact Or.inl rfl | exact Or.inr rfl | (unfold bI; split; exact Or.inr rfl; exact Or.inl rfl)) rfl rfl
            · replace hres := or_f hres h212_40
              refine V.aload_n X d_Mo_beginStatement_215 rfl ?_
              obtain ⟨S46, x46, hres⟩ := hres
              refine V.callV0 X (c_Mo_condition (h + 1) x46) Y_Mo_condition k_Mo_262 0 rfl rfl rfl rfl rfl (Rok.lt (by omega)) d_Mo_beginStatement_216 ?_
              refine V.aload_n X d_Mo_beginStatement_219 rfl ?_
              refine g_Mo_kind X k_Mo_13 d_Mo_beginStatement_220 ?_
              refine V.iload_n X d_Mo_beginStatement_223 rfl ?_
              obtain ⟨g47, hres⟩ := hres
              refine l_Mo_kind (x := ((r_kind S46) (r_at S))) X g47 (congrFun rfl _) d_Mo_beginStatement_224 ?_
              refine V.bipush (v := nI 7) X d_Mo_beginStatement_225 (by decide +kernel) ?_
              obtain ⟨g49, hres⟩ := hres
              refine V.cmpN_ne (tgt := 236) X d_Mo_beginStatement_227 (by decide) (by omega) (by omega) (fun h227_48 => ?_) (fun h227_48 => ?_)
              · replace hres := or_f hres h227_48
                refine V.aload_n X d_Mo_beginStatement_236 rfl ?_
                refine g_Mo_kind X k_Mo_13 d_Mo_beginStatement_237 ?_
                refine V.iload_n X d_Mo_beginStatement_240 rfl ?_
                obtain ⟨g50, hres⟩ := hres
                refine l_Mo_kind (x := ((r_kind S46) (r_at S))) X g50 (congrFun rfl _) d_Mo_beginStatement_241 ?_
                refine V.bipush (v := nI 10) X d_Mo_beginStatement_242 (by decide +kernel) ?_
                refine V.cmpN_ne (tgt := 253) X d_Mo_beginStatement_244 (by decide) (by omega) (by omega) (fun h244_51 => ?_) (fun h244_51 => ?_)
                · replace hres := or_f hres h244_51
                  refine V.iconst (v := nI 0) X d_Mo_beginStatement_253 (by decide +kernel) ?_
                  obtain ⟨rfl, rfl⟩ := hres
                  exact V.zret X d_Mo_beginStatement_254 (by first | exact Or.inl rfl | exact Or.inr rfl | (unfold bI; split; exact Or.inr rfl; exact Or.inl rfl)) rfl rfl
                · replace hres := or_t hres h244_51
                  refine V.aload_n X d_Mo_beginStatement_247 rfl ?_
                  refine V.bipush (v := nI 11) X d_Mo_beginStatement_248 (by decide +kernel) ?_
                  obtain ⟨S52, x52, hres⟩ := hres
                  refine V.callV0 X (c_Mo_need (h + 3) x52) Y_Mo_need k_Mo_227 0 rfl rfl rfl rfl rfl (Rok.lt (by omega)) d_Mo_beginStatement_250 ?_
                  refine V.iconst (v := nI 0) X d_Mo_beginStatement_253 (by decide +kernel) ?_
                  obtain ⟨rfl, rfl⟩ := hres
                  exact V.zret X d_Mo_beginStatement_254 (by first | exact Or.inl rfl | exact Or.inr rfl | (unfold bI; split; exact Or.inr rfl; exact Or.inl rfl)) rfl rfl
              · replace hres := or_t hres h227_48
                refine V.aload_n X d_Mo_beginStatement_230 rfl ?_
                refine V.bipush (v := nI 8) X d_Mo_beginStatement_231 (by decide +kernel) ?_
                obtain ⟨S53, x53, hres⟩ := hres
                refine V.callV0 X (c_Mo_need (h + 3) x53) Y_Mo_need k_Mo_227 0 rfl rfl rfl rfl rfl (Rok.lt (by omega)) d_Mo_beginStatement_233 ?_
                refine V.aload_n X d_Mo_beginStatement_236 rfl ?_
                refine g_Mo_kind X k_Mo_13 d_Mo_beginStatement_237 ?_
                refine V.iload_n X d_Mo_beginStatement_240 rfl ?_
                obtain ⟨g54, hres⟩ := hres
                refine l_Mo_kind (x := ((r_kind S53) (r_at S))) X g54 (congrFun rfl _) d_Mo_beginStatement_241 ?_
                refine V.bipush (v := nI 10) X d_Mo_beginStatement_242 (by decide +kernel) ?_
                obtain ⟨g56, hres⟩ := hres
                refine V.cmpN_ne (tgt := 253) X d_Mo_beginStatement_244 (by decide) (by omega) (by omega) (fun h244_55 => ?_) (fun h244_55 => ?_)
                · replace hres := or_f hres h244_55
                  refine V.iconst (v := nI 0) X d_Mo_beginStatement_253 (by decide +kernel) ?_
                  obtain ⟨rfl, rfl⟩ := hres
                  exact V.zret X d_Mo_beginStatement_254 (by first | exact Or.inl rfl | exact Or.inr rfl | (unfold bI; split; exact Or.inr rfl; exact Or.inl rfl)) rfl rfl
                · replace hres := or_t hres h244_55
                  refine V.aload_n X d_Mo_beginStatement_247 rfl ?_
                  refine V.bipush (v := nI 11) X d_Mo_beginStatement_248 (by decide +kernel) ?_
                  obtain ⟨S57, x57, hres⟩ := hres
                  refine V.callV0 X (c_Mo_need (h + 3) x57) Y_Mo_need k_Mo_227 0 rfl rfl rfl rfl rfl (Rok.lt (by omega)) d_Mo_beginStatement_250 ?_
                  refine V.iconst (v := nI 0) X d_Mo_beginStatement_253 (by decide +kernel) ?_
                  obtain ⟨rfl, rfl⟩ := hres
                  exact V.zret X d_Mo_beginStatement_254 (by first | exact Or.inl rfl | exact Or.inr rfl | (unfold bI; split; exact Or.inr rfl; exact Or.inl rfl)) rfl rfl
          · refine V.top (v' := .int (nI t38)) (by rw [qt38]; rfl) ?_
            obtain ⟨g58, hres⟩ := hres
            refine V.ifN_lt (tgt := 195) X d_Mo_beginStatement_190 (by decide) (by omega) ?_
            refine V.iconst (v := nI 1) X d_Mo_beginStatement_193 (by decide +kernel) ?_
            obtain ⟨rfl, rfl⟩ := hres
            exact V.zret X d_Mo_beginStatement_194 (by first | exact Or.inl rfl | exact Or.inr rfl | (unfold bI; split; exact Or.inr rfl; exact Or.inl rfl)) rfl rfl
        · replace hres := or_f hres h159_34
          refine V.aload_n X d_Mo_beginStatement_162 rfl ?_
          refine g_Mo_kind X k_Mo_13 d_Mo_beginStatement_163 ?_
          refine V.iload_n X d_Mo_beginStatement_166 rfl ?_
          obtain ⟨g59, hres⟩ := hres
          refine l_Mo_kind (x := ((r_kind S4) (r_at S))) X g59 (congrFun rfl _) d_Mo_beginStatement_167 ?_
          refine V.bipush (v := nI 10) X d_Mo_beginStatement_168 (by decide +kernel) ?_
          refine V.cmpN_eq (tgt := 175) X d_Mo_beginStatement_170 (by decide) (by omega) (by omega) (fun h170_60 => ?_) (fun h170_60 => ?_)
          · replace hres := or_t hres h170_60
            refine V.aload_n X d_Mo_beginStatement_175 rfl ?_
            refine V.aload_n X d_Mo_beginStatement_176 rfl ?_
            refine g_Mo_kind X k_Mo_13 d_Mo_beginStatement_177 ?_
            refine V.iload_n X d_Mo_beginStatement_180 rfl ?_
            obtain ⟨g61, hres⟩ := hres
            refine l_Mo_kind (x := ((r_kind S4) (r_at S))) X g61 (congrFun rfl _) d_Mo_beginStatement_181 ?_
            refine V.iload_n X d_Mo_beginStatement_182 rfl ?_
            obtain ⟨S62, x62, hres⟩ := hres
            refine V.callV0 X (c_Mo_deeper (h + 3) x62) Y_Mo_deeper k_Mo_259 0 rfl rfl rfl rfl rfl (Rok.lt (by omega)) d_Mo_beginStatement_183 ?_
            refine V.aload_n X d_Mo_beginStatement_186 rfl ?_
            refine g_Mo_wrong (x := (r_wrong S62)) X rfl k_Mo_187 d_Mo_beginStatement_187 ?_
            rcases hres with ⟨qt64, hres⟩ | ⟨t64, qt64, hres⟩
            · refine V.top (v' := .int (-1)) (by rw [qt64]; rfl) ?_
              refine V.if_lt (tgt := 195) X d_Mo_beginStatement_190 (by decide) (fun _ => ?_) (fun h => absurd (by decide) h)
              refine V.aload_n X d_Mo_beginStatement_195 rfl ?_
              refine V.dup X d_Mo_beginStatement_196 rfl ?_
              refine g_Mo_at (x := (r_at S62)) X rfl k_Mo_190 d_Mo_beginStatement_197 ?_
              refine V.iconst (v := nI 1) X d_Mo_beginStatement_200 (by decide +kernel) ?_
              refine V.iadd X d_Mo_beginStatement_201 (nI_add _ _) ?_
              refine p_Mo_at X k_Mo_190 d_Mo_beginStatement_202 ?_
              refine V.aload_n X d_Mo_beginStatement_205 rfl ?_
              refine g_Mo_kind X k_Mo_13 d_Mo_beginStatement_206 ?_
              refine V.iload_n X d_Mo_beginStatement_209 rfl ?_
              obtain ⟨g65, hres⟩ := hres
              refine l_Mo_kind (x := ((r_kind S62) (r_at S))) X g65 (congrFun (rw_kind_at _ _) _) d_Mo_beginStatement_210 ?_
              refine V.iconst (v := nI 5) X d_Mo_beginStatement_211 (by decide +kernel) ?_
              obtain ⟨g67, hres⟩ := hres
              refine V.cmpN_eq (tgt := 219) X d_Mo_beginStatement_212 (by decide) (by omega) (by omega) (fun h212_66 => ?_) (fun h212_66 => ?_)
              · replace hres := or_t hres h212_66
                refine V.aload_n X d_Mo_beginStatement_219 rfl ?_
                refine g_Mo_kind X k_Mo_13 d_Mo_beginStatement_220 ?_
                refine V.iload_n X d_Mo_beginStatement_223 rfl ?_
                obtain ⟨g68, hres⟩ := hres
                refine l_Mo_kind (x := ((r_kind S62) (r_at S))) X g68 (congrFun (rw_kind_at _ _) _) d_Mo_beginStatement_224 ?_
                refine V.bipush (v := nI 7) X d_Mo_beginStatement_225 (by decide +kernel) ?_
                refine V.cmpN_ne (tgt := 236) X d_Mo_beginStatement_227 (by decide) (by omega) (by omega) (fun _ => ?_) (fun h => absurd h (by omega))
                refine V.aload_n X d_Mo_beginStatement_236 rfl ?_
                refine g_Mo_kind X k_Mo_13 d_Mo_beginStatement_237 ?_
                refine V.iload_n X d_Mo_beginStatement_240 rfl ?_
                obtain ⟨g70, hres⟩ := hres
                refine l_Mo_kind (x := ((r_kind S62) (r_at S))) X g70 (congrFun (rw_kind_at _ _) _) d_Mo_beginStatement_241 ?_
                refine V.bipush (v := nI 10) X d_Mo_beginStatement_242 (by decide +kernel) ?_
                refine V.cmpN_ne (tgt := 253) X d_Mo_beginStatement_244 (by decide) (by omega) (by omega) (fun _ => ?_) (fun h => absurd h (by omega))
                refine V.iconst (v := nI 0) X d_Mo_beginStatement_253 (by decide +kernel) ?_
                obtain ⟨rfl, rfl⟩ := hres
                exact V.zret X d_Mo_beginStatement_254 (by first | exact Or.inl rfl | exact Or.inr rfl | (unfold bI; split; exact Or.inr rfl; exact Or.inl rfl)) rfl rfl
              · replace hres := or_f hres h212_66
                refine V.aload_n X d_Mo_beginStatement_215 rfl ?_
                obtain ⟨S72, x72, hres⟩ := hres
                refine V.callV0 X (c_Mo_condition (h + 1) x72) Y_Mo_condition k_Mo_262 0 rfl rfl rfl rfl rfl (Rok.lt (by omega)) d_Mo_beginStatement_216 ?_
                refine V.aload_n X d_Mo_beginStatement_219 rfl ?_
                refine g_Mo_kind X k_Mo_13 d_Mo_beginStatement_220 ?_
                refine V.iload_n X d_Mo_beginStatement_223 rfl ?_
                obtain ⟨g73, hres⟩ := hres
                refine l_Mo_kind (x := ((r_kind S72) (r_at S))) X g73 (congrFun rfl _) d_Mo_beginStatement_224 ?_
                refine V.bipush (v := nI 7) X d_Mo_beginStatement_225 (by decide +kernel) ?_
                obtain ⟨g75, hres⟩ := hres
                refine V.cmpN_ne (tgt := 236) X d_Mo_beginStatement_227 (by decide) (by omega) (by omega) (fun h227_74 => ?_) (fun h227_74 => ?_)
                · replace hres := or_f hres h227_74
                  refine V.aload_n X d_Mo_beginStatement_236 rfl ?_
                  refine g_Mo_kind X k_Mo_13 d_Mo_beginStatement_237 ?_
                  refine V.iload_n X d_Mo_beginStatement_240 rfl ?_
                  obtain ⟨g76, hres⟩ := hres
                  refine l_Mo_kind (x := ((r_kind S72) (r_at S))) X g76 (congrFun rfl _) d_Mo_beginStatement_241 ?_
                  refine V.bipush (v := nI 10) X d_Mo_beginStatement_242 (by decide +kernel) ?_
                  refine V.cmpN_ne (tgt := 253) X d_Mo_beginStatement_244 (by decide) (by omega) (by omega) (fun h244_77 => ?_) (fun h244_77 => ?_)
                  · replace hres := or_f hres h244_77
                    refine V.iconst (v := nI 0) X d_Mo_beginStatement_253 (by decide +kernel) ?_
                    obtain ⟨rfl, rfl⟩ := hres
                    exact V.zret X d_Mo_beginStatement_254 (by first | exact Or.inl rfl | exact Or.inr rfl | (unfold bI; split; exact Or.inr rfl; exact Or.inl rfl)) rfl rfl
                  · replace hres := or_t hres h244_77
                    refine V.aload_n X d_Mo_beginStatement_247 rfl ?_
                    refine V.bipush (v := nI 11) X d_Mo_beginStatement_248 (by decide +kernel) ?_
                    obtain ⟨S78, x78, hres⟩ := hres
                    refine V.callV0 X (c_Mo_need (h + 3) x78) Y_Mo_need k_Mo_227 0 rfl rfl rfl rfl rfl (Rok.lt (by omega)) d_Mo_beginStatement_250 ?_
                    refine V.iconst (v := nI 0) X d_Mo_beginStatement_253 (by decide +kernel) ?_
                    obtain ⟨rfl, rfl⟩ := hres
                    exact V.zret X d_Mo_beginStatement_254 (by first | exact Or.inl rfl | exact Or.inr rfl | (unfold bI; split; exact Or.inr rfl; exact Or.inl rfl)) rfl rfl
                · replace hres := or_t hres h227_74
                  refine V.aload_n X d_Mo_beginStatement_230 rfl ?_
                  refine V.bipush (v := nI 8) X d_Mo_beginStatement_231 (by decide +kernel) ?_
                  obtain ⟨S79, x79, hres⟩ := hres
                  refine V.callV0 X (c_Mo_need (h + 3) x79) Y_Mo_need k_Mo_227 0 rfl rfl rfl rfl rfl (Rok.lt (by omega)) d_Mo_beginStatement_233 ?_
                  refine V.aload_n X d_Mo_beginStatement_236 rfl ?_
                  refine g_Mo_kind X k_Mo_13 d_Mo_beginStatement_237 ?_
                  refine V.iload_n X d_Mo_beginStatement_240 rfl ?_
                  obtain ⟨g80, hres⟩ := hres
                  refine l_Mo_kind (x := ((r_kind S79) (r_at S))) X g80 (congrFun rfl _) d_Mo_beginStatement_241 ?_
                  refine V.bipush (v := nI 10) X d_Mo_beginStatement_242 (by decide +kernel) ?_
                  obtain ⟨g82, hres⟩ := hres
                  refine V.cmpN_ne (tgt := 253) X d_Mo_beginStatement_244 (by decide) (by omega) (by omega) (fun h244_81 => ?_) (fun h244_81 => ?_)
                  · replace hres := or_f hres h244_81
                    refine V.iconst (v := nI 0) X d_Mo_beginStatement_253 (by decide +kernel) ?_
                    obtain ⟨rfl, rfl⟩ := hres
                    exact V.zret X d_Mo_beginStatement_254 (by first | exact Or.inl rfl | exact Or.inr rfl | (unfold bI; split; exact Or.inr rfl; exact Or.inl rfl)) rfl rfl
                  · replace hres := or_t hres h244_81
                    refine V.aload_n X d_Mo_beginStatement_247 rfl ?_
                    refine V.bipush (v := nI 11) X d_Mo_beginStatement_248 (by decide +kernel) ?_
                    obtain ⟨S83, x83, hres⟩ := hres
                    refine V.callV0 X (c_Mo_need (h + 3) x83) Y_Mo_need k_Mo_227 0 rfl rfl rfl rfl rfl (Rok.lt (by omega)) d_Mo_beginStatement_250 ?_
                    refine V.iconst (v := nI 0) X d_Mo_beginStatement_253 (by decide +kernel) ?_
                    obtain ⟨rfl, rfl⟩ := hres
                    exact V.zret X d_Mo_beginStatement_254 (by first | exact Or.inl rfl | exact Or.inr rfl | (unfold bI; split; exact Or.inr rfl; exact Or.inl rfl)) rfl rfl
            · refine V.top (v' := .int (nI t64)) (by rw [qt64]; rfl) ?_
              obtain ⟨g84, hres⟩ := hres
              refine V.ifN_lt (tgt := 195) X d_Mo_beginStatement_190 (by decide) (by omega) ?_
              refine V.iconst (v := nI 1) X d_Mo_beginStatement_193 (by decide +kernel) ?_
              obtain ⟨rfl, rfl⟩ := hres
              exact V.zret X d_Mo_beginStatement_194 (by first | exact Or.inl rfl | exact Or.inr rfl | (unfold bI; split; exact Or.inr rfl; exact Or.inl rfl)) rfl rfl
          · replace hres := or_f hres h170_60
            refine V.iconst (v := nI 1) X d_Mo_beginStatement_173 (by decide +kernel) ?_
            obtain ⟨rfl, rfl⟩ := hres
            exact V.zret X d_Mo_beginStatement_174 (by first | exact Or.inl rfl | exact Or.inr rfl | (unfold bI; split; exact Or.inr rfl; exact Or.inl rfl)) rfl rfl
    · replace hres := or_t hres h120_5
      refine V.aload_n X d_Mo_beginStatement_123 rfl ?_
      refine V.bipush (v := nI 40) X d_Mo_beginStatement_124 (by decide +kernel) ?_
      obtain ⟨S85, x85, hres⟩ := hres
      refine V.callV0 X (c_Mo_need (h + 3) x85) Y_Mo_need k_Mo_227 0 rfl rfl rfl rfl rfl (Rok.lt (by omega)) d_Mo_beginStatement_126 ?_
      refine V.aload_n X d_Mo_beginStatement_129 rfl ?_
      obtain ⟨S86, x86, hres⟩ := hres
      refine V.callV0 X (c_Mo_expression (h + 2) x86) Y_Mo_expression k_Mo_242 0 rfl rfl rfl rfl rfl (Rok.lt (by omega)) d_Mo_beginStatement_130 ?_
      refine V.aload_n X d_Mo_beginStatement_133 rfl ?_
      refine V.bipush (v := nI 41) X d_Mo_beginStatement_134 (by decide +kernel) ?_
      obtain ⟨S87, x87, hres⟩ := hres
      refine V.callV0 X (c_Mo_need (h + 3) x87) Y_Mo_need k_Mo_227 0 rfl rfl rfl rfl rfl (Rok.lt (by omega)) d_Mo_beginStatement_136 ?_
      refine V.iconst (v := nI 1) X d_Mo_beginStatement_139 (by decide +kernel) ?_
      obtain ⟨rfl, rfl⟩ := hres
      exact V.zret X d_Mo_beginStatement_140 (by first | exact Or.inl rfl | exact Or.inr rfl | (unfold bI; split; exact Or.inr rfl; exact Or.inl rfl)) rfl rfl
  · replace hres := or_t hres h12_2
    refine V.aload_n X d_Mo_beginStatement_15 rfl ?_
    refine V.iload_n X d_Mo_beginStatement_16 rfl ?_
    obtain ⟨v88, S88, x88, hres⟩ := hres
    refine V.callV1 X (c_Mo_find (h + 4) x88) Y_Mo_find k_Mo_233 0 rfl rfl rfl rfl rfl (Rok.lt (by omega)) d_Mo_beginStatement_17 ?_
    refine V.istore_n (lv' := [(0, .ref (b 0)), (1, .int (nI (r_at S))), (2, .int (fI v88))]) X d_Mo_beginStatement_20 (by decide) rfl ?_
    refine V.aload_n X d_Mo_beginStatement_21 rfl ?_
    refine g_Mo_kind X k_Mo_13 d_Mo_beginStatement_22 ?_
    refine V.iload_n X d_Mo_beginStatement_25 rfl ?_
    refine V.iconst (v := nI 1) X d_Mo_beginStatement_26 (by decide +kernel) ?_
    refine V.iadd X d_Mo_beginStatement_27 (nI_add _ _) ?_
    obtain ⟨g89, hres⟩ := hres
    refine l_Mo_kind (x := ((r_kind S88) ((r_at S) + 1))) X g89 (congrFun rfl _) d_Mo_beginStatement_28 ?_
    refine V.bipush (v := nI 13) X d_Mo_beginStatement_29 (by decide +kernel) ?_
    obtain ⟨g91, hres⟩ := hres
    refine V.cmpN_ne (tgt := 38) X d_Mo_beginStatement_31 (by decide) (by omega) (by omega) (fun h31_90 => ?_) (fun h31_90 => ?_)
    · replace hres := or_f hres h31_90
      refine V.iconst (v := nI 0) X d_Mo_beginStatement_38 (by decide +kernel) ?_
      refine V.istore_n (lv' := [(0, .ref (b 0)), (1, .int (nI (r_at S))), (2, .int (fI v88)), (3, .int (nI 0))]) X d_Mo_beginStatement_39 (by decide) rfl ?_
      refine V.iload_n X d_Mo_beginStatement_40 rfl ?_
      rcases hres with ⟨qt93, hres⟩ | ⟨t93, qt93, hres⟩
      · refine V.top (v' := .int (-1)) (by rw [qt93]; rfl) ?_
        refine V.if_lt (tgt := 63) X d_Mo_beginStatement_41 (by decide) (fun _ => ?_) (fun h => absurd (by decide) h)
        refine V.aload_n X d_Mo_beginStatement_63 rfl ?_
        refine V.iload_n X d_Mo_beginStatement_64 rfl ?_
        obtain ⟨S94, x94, hres⟩ := hres
        refine V.callV0 X (c_Mo_blame (h + 4) x94) Y_Mo_blame k_Mo_196 0 rfl rfl rfl rfl rfl (Rok.lt (by omega)) d_Mo_beginStatement_65 ?_
        refine V.iconst (v := nI 1) X d_Mo_beginStatement_68 (by decide +kernel) ?_
        obtain ⟨rfl, rfl⟩ := hres
        exact V.zret X d_Mo_beginStatement_69 (by first | exact Or.inl rfl | exact Or.inr rfl | (unfold bI; split; exact Or.inr rfl; exact Or.inl rfl)) rfl rfl
      · refine V.top (v' := .int (nI t93)) (by rw [qt93]; rfl) ?_
        obtain ⟨g95, hres⟩ := hres
        refine V.lvs (lv' := [(0, .ref (b 0)), (1, .int (nI (r_at S))), (2, .int (nI t93)), (3, .int (nI 0))]) (by rw [qt93]; rfl) ?_
        refine V.ifN_lt (tgt := 63) X d_Mo_beginStatement_41 (by decide) (by omega) ?_
        refine V.aload_n X d_Mo_beginStatement_44 rfl ?_
        refine g_Mo_sort X k_Mo_51 d_Mo_beginStatement_45 ?_
        refine V.iload_n X d_Mo_beginStatement_48 rfl ?_
        obtain ⟨g96, hres⟩ := hres
        refine l_Mo_sort (x := ((r_sort S88) t93)) X g96 (congrFun rfl _) d_Mo_beginStatement_49 ?_
        refine V.iconst (v := nI 3) X d_Mo_beginStatement_50 (by decide +kernel) ?_
        obtain ⟨g98, hres⟩ := hres
        refine V.cmpN_ne (tgt := 58) X d_Mo_beginStatement_51 (by decide) (by omega) (by omega) (fun h51_97 => ?_) (fun h51_97 => ?_)
        · replace hres := or_f hres h51_97
          refine V.iconst (v := nI 0) X d_Mo_beginStatement_58 (by decide +kernel) ?_
          refine V.iload_n X d_Mo_beginStatement_59 rfl ?_
          refine V.cmpN_ne (tgt := 70) X d_Mo_beginStatement_60 (by decide) (by decide) (by decide) (fun h => absurd h (by decide)) (fun _ => ?_)
          refine V.aload_n X d_Mo_beginStatement_63 rfl ?_
          refine V.iload_n X d_Mo_beginStatement_64 rfl ?_
          obtain ⟨S100, x100, hres⟩ := hres
          refine V.callV0 X (c_Mo_blame (h + 4) x100) Y_Mo_blame k_Mo_196 0 rfl rfl rfl rfl rfl (Rok.lt (by omega)) d_Mo_beginStatement_65 ?_
          refine V.iconst (v := nI 1) X d_Mo_beginStatement_68 (by decide +kernel) ?_
          obtain ⟨rfl, rfl⟩ := hres
          exact V.zret X d_Mo_beginStatement_69 (by first | exact Or.inl rfl | exact Or.inr rfl | (unfold bI; split; exact Or.inr rfl; exact Or.inl rfl)) rfl rfl
        · replace hres := or_t hres h51_97
          refine V.iconst (v := nI 1) X d_Mo_beginStatement_54 (by decide +kernel) ?_
          refine V.goto (tgt := 59) X d_Mo_beginStatement_55 (by decide) ?_
          refine V.iload_n X d_Mo_beginStatement_59 rfl ?_
          refine V.cmpN_ne (tgt := 70) X d_Mo_beginStatement_60 (by decide) (by decide) (by decide) (fun _ => ?_) (fun h => absurd h (by decide))
          refine V.aload_n X d_Mo_beginStatement_70 rfl ?_
          refine g_Mo_means X k_Mo_26 d_Mo_beginStatement_71 ?_
          refine V.iload_n X d_Mo_beginStatement_74 rfl ?_
          refine V.iload_n X d_Mo_beginStatement_75 rfl ?_
          obtain ⟨g102, hres⟩ := hres
          refine s_Mo_means (g := (r_means S88)) X g102 rfl d_Mo_beginStatement_76 ?_
          refine V.aload_n X d_Mo_beginStatement_77 rfl ?_
          refine V.dup X d_Mo_beginStatement_78 rfl ?_
          refine g_Mo_at (x := (r_at S88)) X (rw_at_means _ _) k_Mo_190 d_Mo_beginStatement_79 ?_
          refine V.iload_n X d_Mo_beginStatement_82 rfl ?_
          refine V.ifN_eq (tgt := 90) X d_Mo_beginStatement_83 (by decide) (by decide) (fun _ => ?_) (fun h => absurd h (by decide))
          refine V.iconst (v := nI 1) X d_Mo_beginStatement_90 (by decide +kernel) ?_
          refine V.iadd X d_Mo_beginStatement_91 (nI_add _ _) ?_
          refine p_Mo_at X k_Mo_190 d_Mo_beginStatement_92 ?_
          refine V.iload_n X d_Mo_beginStatement_95 rfl ?_
          refine V.ifN_eq (tgt := 106) X d_Mo_beginStatement_96 (by decide) (by decide) (fun _ => ?_) (fun h => absurd h (by decide))
          refine V.aload_n X d_Mo_beginStatement_106 rfl ?_
          refine V.iload_n X d_Mo_beginStatement_107 rfl ?_
          refine V.iload_n X d_Mo_beginStatement_108 rfl ?_
          obtain ⟨S105, x105, hres⟩ := hres
          refine V.callV0 X (c_Mo_call (h + 0) x105) Y_Mo_call k_Mo_256 0 rfl rfl rfl rfl rfl (Rok.lt (by omega)) d_Mo_beginStatement_109 ?_
          refine V.iconst (v := nI 1) X d_Mo_beginStatement_112 (by decide +kernel) ?_
          obtain ⟨rfl, rfl⟩ := hres
          exact V.zret X d_Mo_beginStatement_113 (by first | exact Or.inl rfl | exact Or.inr rfl | (unfold bI; split; exact Or.inr rfl; exact Or.inl rfl)) rfl rfl
    · replace hres := or_t hres h31_90
      refine V.iconst (v := nI 1) X d_Mo_beginStatement_34 (by decide +kernel) ?_
      refine V.goto (tgt := 39) X d_Mo_beginStatement_35 (by decide) ?_
      refine V.istore_n (lv' := [(0, .ref (b 0)), (1, .int (nI (r_at S))), (2, .int (fI v88)), (3, .int (nI 1))]) X d_Mo_beginStatement_39 (by decide) rfl ?_
      refine V.iload_n X d_Mo_beginStatement_40 rfl ?_
      rcases hres with ⟨qt107, hres⟩ | ⟨t107, qt107, hres⟩
      · refine V.top (v' := .int (-1)) (by rw [qt107]; rfl) ?_
        refine V.if_lt (tgt := 63) X d_Mo_beginStatement_41 (by decide) (fun _ => ?_) (fun h => absurd (by decide) h)
        refine V.aload_n X d_Mo_beginStatement_63 rfl ?_
        refine V.iload_n X d_Mo_beginStatement_64 rfl ?_
        obtain ⟨S108, x108, hres⟩ := hres
        refine V.callV0 X (c_Mo_blame (h + 4) x108) Y_Mo_blame k_Mo_196 0 rfl rfl rfl rfl rfl (Rok.lt (by omega)) d_Mo_beginStatement_65 ?_
        refine V.iconst (v := nI 1) X d_Mo_beginStatement_68 (by decide +kernel) ?_
        obtain ⟨rfl, rfl⟩ := hres
        exact V.zret X d_Mo_beginStatement_69 (by first | exact Or.inl rfl | exact Or.inr rfl | (unfold bI; split; exact Or.inr rfl; exact Or.inl rfl)) rfl rfl
      · refine V.top (v' := .int (nI t107)) (by rw [qt107]; rfl) ?_
        obtain ⟨g109, hres⟩ := hres
        refine V.lvs (lv' := [(0, .ref (b 0)), (1, .int (nI (r_at S))), (2, .int (nI t107)), (3, .int (nI 1))]) (by rw [qt107]; rfl) ?_
        refine V.ifN_lt (tgt := 63) X d_Mo_beginStatement_41 (by decide) (by omega) ?_
        refine V.aload_n X d_Mo_beginStatement_44 rfl ?_
        refine g_Mo_sort X k_Mo_51 d_Mo_beginStatement_45 ?_
        refine V.iload_n X d_Mo_beginStatement_48 rfl ?_
        obtain ⟨g110, hres⟩ := hres
        refine l_Mo_sort (x := ((r_sort S88) t107)) X g110 (congrFun rfl _) d_Mo_beginStatement_49 ?_
        refine V.iconst (v := nI 3) X d_Mo_beginStatement_50 (by decide +kernel) ?_
        obtain ⟨g112, hres⟩ := hres
        refine V.cmpN_ne (tgt := 58) X d_Mo_beginStatement_51 (by decide) (by omega) (by omega) (fun h51_111 => ?_) (fun h51_111 => ?_)
        · replace hres := or_f hres h51_111
          refine V.iconst (v := nI 0) X d_Mo_beginStatement_58 (by decide +kernel) ?_
          refine V.iload_n X d_Mo_beginStatement_59 rfl ?_
          refine V.cmpN_ne (tgt := 70) X d_Mo_beginStatement_60 (by decide) (by decide) (by decide) (fun _ => ?_) (fun h => absurd h (by decide))
          refine V.aload_n X d_Mo_beginStatement_70 rfl ?_
          refine g_Mo_means X k_Mo_26 d_Mo_beginStatement_71 ?_
          refine V.iload_n X d_Mo_beginStatement_74 rfl ?_
          refine V.iload_n X d_Mo_beginStatement_75 rfl ?_
          obtain ⟨g114, hres⟩ := hres
          refine s_Mo_means (g := (r_means S88)) X g114 rfl d_Mo_beginStatement_76 ?_
          refine V.aload_n X d_Mo_beginStatement_77 rfl ?_
          refine V.dup X d_Mo_beginStatement_78 rfl ?_
          refine g_Mo_at (x := (r_at S88)) X (rw_at_means _ _) k_Mo_190 d_Mo_beginStatement_79 ?_
          refine V.iload_n X d_Mo_beginStatement_82 rfl ?_
          refine V.ifN_eq (tgt := 90) X d_Mo_beginStatement_83 (by decide) (by decide) (fun h => absurd h (by decide)) (fun _ => ?_)
          refine V.iconst (v := nI 2) X d_Mo_beginStatement_86 (by decide +kernel) ?_
          refine V.goto (tgt := 91) X d_Mo_beginStatement_87 (by decide) ?_
          refine V.iadd X d_Mo_beginStatement_91 (nI_add _ _) ?_
          refine p_Mo_at X k_Mo_190 d_Mo_beginStatement_92 ?_
          refine V.iload_n X d_Mo_beginStatement_95 rfl ?_
          refine V.ifN_eq (tgt := 106) X d_Mo_beginStatement_96 (by decide) (by decide) (fun h => absurd h (by decide)) (fun _ => ?_)
          refine V.aload_n X d_Mo_beginStatement_99 rfl ?_
          obtain ⟨S117, x117, hres⟩ := hres
          refine V.callV0 X (c_Mo_expression (h + 2) x117) Y_Mo_expression k_Mo_242 0 rfl rfl rfl rfl rfl (Rok.lt (by omega)) d_Mo_beginStatement_100 ?_
          refine V.goto (tgt := 112) X d_Mo_beginStatement_103 (by decide) ?_
          refine V.iconst (v := nI 1) X d_Mo_beginStatement_112 (by decide +kernel) ?_
          obtain ⟨rfl, rfl⟩ := hres
          exact V.zret X d_Mo_beginStatement_113 (by first | exact Or.inl rfl | exact Or.inr rfl | (unfold bI; split; exact Or.inr rfl; exact Or.inl rfl)) rfl rfl
        · replace hres := or_t hres h51_111
          refine V.iconst (v := nI 1) X d_Mo_beginStatement_54 (by decide +kernel) ?_
          refine V.goto (tgt := 59) X d_Mo_beginStatement_55 (by decide) ?_
          refine V.iload_n X d_Mo_beginStatement_59 rfl ?_
          refine V.cmpN_ne (tgt := 70) X d_Mo_beginStatement_60 (by decide) (by decide) (by decide) (fun h => absurd h (by decide)) (fun _ => ?_)
          refine V.aload_n X d_Mo_beginStatement_63 rfl ?_
          refine V.iload_n X d_Mo_beginStatement_64 rfl ?_
          obtain ⟨S119, x119, hres⟩ := hres
          refine V.callV0 X (c_Mo_blame (h + 4) x119) Y_Mo_blame k_Mo_196 0 rfl rfl rfl rfl rfl (Rok.lt (by omega)) d_Mo_beginStatement_65 ?_
          refine V.iconst (v := nI 1) X d_Mo_beginStatement_68 (by decide +kernel) ?_
          obtain ⟨rfl, rfl⟩ := hres
          exact V.zret X d_Mo_beginStatement_69 (by first | exact Or.inl rfl | exact Or.inr rfl | (unfold bI; split; exact Or.inr rfl; exact Or.inl rfl)) rfl rfl
def mo_behindStatement_go : Nat → Nat → MS → Bool → MS → Prop
  | 0, _, _, _, _ => False
  | n + 1, _, S, v, S' => (r_deep S) < 2147483648 ∧ (((r_deep S) = 0 ∧ (∃ v3 S3, mo_take 59 S v3 S3 ∧ (v = v3 ∧ S' = S3))) ∨ (¬ (r_deep S) = 0 ∧ (((r_wrong S) = none ∧ (1 ≤ (r_deep S) ∧ (((r_deep S) - 1) < 10 ∧ (1 ≤ (r_deep S) ∧ (((r_deep S) - 1) < 10 ∧ (((r_within S) ((r_deep S) - 1)) < 2147483648 ∧ ((((r_within S) ((r_deep S) - 1)) = 7 ∧ ((r_at S) < 155 ∧ (((r_kind S) (r_at S)) < 2147483648 ∧ ((((r_kind S) (r_at S)) = 9 ∧ (((r_since S) ((r_deep S) - 1)) < 155 ∧ (1 ≤ (r_deep S) ∧ (((r_deep S) - 1) < 10 ∧ (1 ≤ (r_deep S) ∧ (((r_deep S) - 1) < 10 ∧ (v = true ∧ S' = (w_at (w_since (w_within (w_next S (va_up (r_next S) ((r_since S) ((r_deep S) - 1)) (r_at S))) (va_up (r_within S) ((r_deep S) - 1) 9)) (va_up (r_since S) ((r_deep S) - 1) (r_at S))) ((r_at S) + 1))))))))) ∨ (¬ ((r_kind S) (r_at S)) = 9 ∧ (((r_since S) ((r_deep S) - 1)) < 155 ∧ (1 ≤ (r_deep S) ∧ (mo_behindStatement_go n 0  (w_deep (w_next S (va_up (r_next S) ((r_since S) ((r_deep S) - 1)) (r_at S))) ((r_deep S) - 1)) v S')))))))) ∨ (¬ ((r_within S) ((r_deep S) - 1)) = 7 ∧ ((((r_within S) ((r_deep S) - 1)) = 5 ∧ (∃ v15 S15, mo_take 59 S v15 S15 ∧ ((v15 = true ∧ (v = true ∧ S' = S15)) ∨ (¬ v15 = true ∧ (∃ S17, mo_need 6 S15 S17 ∧ (((r_since S) ((r_deep S) - 1)) < 155 ∧ (1 ≤ (r_deep S17) ∧ (mo_behindStatement_go n 0  (w_deep (w_next S17 (va_up (r_next S17) ((r_since S) ((r_deep S) - 1)) (r_at S17))) ((r_deep S17) - 1)) v S')))))))) ∨ (¬ ((r_within S) ((r_deep S) - 1)) = 5 ∧ (((r_since S) ((r_deep S) - 1)) < 155 ∧ (1 ≤ (r_deep S) ∧ (mo_behindStatement_go n 0  (w_deep (w_next S (va_up (r_next S) ((r_since S) ((r_deep S) - 1)) (r_at S))) ((r_deep S) - 1)) v S'))))))))))))) ∨ (∃ t5, (r_wrong S) = some t5 ∧ (t5 < 2147483648 ∧ (∃ v32 S32, mo_take 59 S v32 S32 ∧ (v = v32 ∧ S' = S32)))))))
def mo_behindStatement (S : MS) (v : Bool) (S' : MS) : Prop := ∃ n, mo_behindStatement_go n 0  S v S'
set_option maxHeartbeats 4000000 in
set_option maxRecDepth 100000 in
theorem c_Mo_behindStatement {l : Launch} {z : Zt} {b : Nat → Nat} {S : MS} {v : Bool} {S' : MS} (h : Nat) (hres : mo_behindStatement S v S') : XC l (Gz z) (h + 3) y_Mo_behindStatement b_Mo_behindStatement 3 (some .boolean) [.ref (b 0)] (mw z b S) (.inl (some (.int (bI v)))) (mw z b S') := by
  rw [mo_behindStatement] at hres
  refine XC.ofV (by decide +kernel) rfl ?_
  intro p e s m below meth c X hnm
  have go : ∀ n : Nat, (∀ (S : MS), mo_behindStatement_go n 0  S v S' → V p l e (Rm (h + 3)) s m ([.ref (b 0)] : List Value).toArray below meth c (Gz z) 3 0 0 (XE below (Gz z) (.inl (some (.int (bI v)))) (mw z b S') ([.ref (b 0)] : List Value).toArray s) (mw z b S) 0 [(0, .ref (b 0))] []) := by
    intro n
    induction n with
    | zero =>
      skip
      · intro S hres
        exact absurd hres (by simp only [mo_behindStatement_go, not_false_eq_true])
    | succ n ih =>
      skip
      · intro S hres
        rw [mo_behindStatement_go] at hres
        refine V.aload_n X d_Mo_behindStatement_0 rfl ?_
        refine g_Mo_deep (x := (r_deep S)) X rfl k_Mo_253 d_Mo_behindStatement_1 ?_
        obtain ⟨g2, hres⟩ := hres
        refine V.ifN_le (tgt := 153) X d_Mo_behindStatement_4 (by decide) (by omega) (fun h4_1 => ?_) (fun h4_1 => ?_)
        · replace hres := or_t hres h4_1
          refine V.aload_n X d_Mo_behindStatement_153 rfl ?_
          refine V.bipush (v := nI 59) X d_Mo_behindStatement_154 (by decide +kernel) ?_
          obtain ⟨v3, S3, x3, hres⟩ := hres
          refine V.callV1 X (c_Mo_take (h + 1) x3) Y_Mo_take k_Mo_193 0 rfl rfl rfl rfl rfl (Rok.lt (by omega)) d_Mo_behindStatement_156 ?_
          obtain ⟨rfl, rfl⟩ := hres
          exact V.zret X d_Mo_behindStatement_159 (by first | exact Or.inl rfl | exact Or.inr rfl | (unfold bI; split; exact Or.inr rfl; exact Or.inl rfl)) rfl rfl
        · replace hres := or_f hres h4_1
          refine V.aload_n X d_Mo_behindStatement_7 rfl ?_
          refine g_Mo_wrong (x := (r_wrong S)) X rfl k_Mo_187 d_Mo_behindStatement_8 ?_
          rcases hres with ⟨qt5, hres⟩ | ⟨t5, qt5, hres⟩
          · refine V.top (v' := .int (-1)) (by rw [qt5]; rfl) ?_
            refine V.if_ge (tgt := 153) X d_Mo_behindStatement_11 (by decide) (fun h => absurd h (by decide)) (fun _ => ?_)
            refine V.aload_n X d_Mo_behindStatement_14 rfl ?_
            refine g_Mo_within X k_Mo_84 d_Mo_behindStatement_15 ?_
            refine V.aload_n X d_Mo_behindStatement_18 rfl ?_
            refine g_Mo_deep (x := (r_deep S)) X rfl k_Mo_253 d_Mo_behindStatement_19 ?_
            refine V.iconst (v := nI 1) X d_Mo_behindStatement_22 (by decide +kernel) ?_
            obtain ⟨g6, hres⟩ := hres
            refine V.isub X d_Mo_behindStatement_23 (pk_sub g6) ?_
            obtain ⟨g7, hres⟩ := hres
            refine l_Mo_within (x := ((r_within S) ((r_deep S) - 1))) X g7 (congrFun rfl _) d_Mo_behindStatement_24 ?_
            refine V.istore_n (lv' := [(0, .ref (b 0)), (1, .int (nI ((r_within S) ((r_deep S) - 1))))]) X d_Mo_behindStatement_25 (by decide) rfl ?_
            refine V.aload_n X d_Mo_behindStatement_26 rfl ?_
            refine g_Mo_since X k_Mo_87 d_Mo_behindStatement_27 ?_
            refine V.aload_n X d_Mo_behindStatement_30 rfl ?_
            refine g_Mo_deep (x := (r_deep S)) X rfl k_Mo_253 d_Mo_behindStatement_31 ?_
            refine V.iconst (v := nI 1) X d_Mo_behindStatement_34 (by decide +kernel) ?_
            obtain ⟨g8, hres⟩ := hres
            refine V.isub X d_Mo_behindStatement_35 (pk_sub g8) ?_
            obtain ⟨g9, hres⟩ := hres
            refine l_Mo_since (x := ((r_since S) ((r_deep S) - 1))) X g9 (congrFun rfl _) d_Mo_behindStatement_36 ?_
            refine V.istore_n (lv' := [(0, .ref (b 0)), (1, .int (nI ((r_within S) ((r_deep S) - 1)))), (2, .int (nI ((r_since S) ((r_deep S) - 1))))]) X d_Mo_behindStatement_37 (by decide) rfl ?_
            refine V.iload_n X d_Mo_behindStatement_38 rfl ?_
            refine V.bipush (v := nI 7) X d_Mo_behindStatement_39 (by decide +kernel) ?_
            obtain ⟨g11, hres⟩ := hres
            refine V.cmpN_ne (tgt := 108) X d_Mo_behindStatement_41 (by decide) (by omega) (by omega) (fun h41_10 => ?_) (fun h41_10 => ?_)
            · replace hres := or_f hres h41_10
              refine V.iload_n X d_Mo_behindStatement_108 rfl ?_
              refine V.iconst (v := nI 5) X d_Mo_behindStatement_109 (by decide +kernel) ?_
              refine V.cmpN_ne (tgt := 130) X d_Mo_behindStatement_110 (by decide) (by omega) (by omega) (fun h110_12 => ?_) (fun h110_12 => ?_)
              · replace hres := or_f hres h110_12
                refine V.aload_n X d_Mo_behindStatement_130 rfl ?_
                refine g_Mo_next X k_Mo_29 d_Mo_behindStatement_131 ?_
                refine V.iload_n X d_Mo_behindStatement_134 rfl ?_
                refine V.aload_n X d_Mo_behindStatement_135 rfl ?_
                refine g_Mo_at (x := (r_at S)) X rfl k_Mo_190 d_Mo_behindStatement_136 ?_
                obtain ⟨g13, hres⟩ := hres
                refine s_Mo_next (g := (r_next S)) X g13 rfl d_Mo_behindStatement_139 ?_
                refine V.aload_n X d_Mo_behindStatement_140 rfl ?_
                refine V.dup X d_Mo_behindStatement_141 rfl ?_
                refine g_Mo_deep (x := (r_deep S)) X (rw_deep_next _ _) k_Mo_253 d_Mo_behindStatement_142 ?_
                refine V.iconst (v := nI 1) X d_Mo_behindStatement_145 (by decide +kernel) ?_
                obtain ⟨g14, hres⟩ := hres
                refine V.isub X d_Mo_behindStatement_146 (pk_sub g14) ?_
                refine p_Mo_deep X k_Mo_253 d_Mo_behindStatement_147 ?_
                refine V.goto (tgt := 0) X d_Mo_behindStatement_150 (by decide) ?_
                refine V.pick [0] rfl ?_
                refine V.lvs (lv' := [(0, .ref (b 0))]) rfl ?_
                exact ih  (w_deep (w_next S (va_up (r_next S) ((r_since S) ((r_deep S) - 1)) (r_at S))) ((r_deep S) - 1)) hres
              · replace hres := or_t hres h110_12
                refine V.aload_n X d_Mo_behindStatement_113 rfl ?_
                refine V.bipush (v := nI 59) X d_Mo_behindStatement_114 (by decide +kernel) ?_
                obtain ⟨v15, S15, x15, hres⟩ := hres
                refine V.callV1 X (c_Mo_take (h + 1) x15) Y_Mo_take k_Mo_193 0 rfl rfl rfl rfl rfl (Rok.lt (by omega)) d_Mo_behindStatement_116 ?_
                refine V.ifB_eq (tgt := 124) X d_Mo_behindStatement_119 (by decide) (fun h119_16 => ?_) (fun h119_16 => ?_)
                · replace hres := or_f hres (by rw [h119_16]; decide)
                  refine V.aload_n X d_Mo_behindStatement_124 rfl ?_
                  refine V.bipush (v := nI 6) X d_Mo_behindStatement_125 (by decide +kernel) ?_
                  obtain ⟨S17, x17, hres⟩ := hres
                  refine V.callV0 X (c_Mo_need (h + 0) x17) Y_Mo_need k_Mo_227 0 rfl rfl rfl rfl rfl (Rok.lt (by omega)) d_Mo_behindStatement_127 ?_
                  refine V.aload_n X d_Mo_behindStatement_130 rfl ?_
                  refine g_Mo_next X k_Mo_29 d_Mo_behindStatement_131 ?_
                  refine V.iload_n X d_Mo_behindStatement_134 rfl ?_
                  refine V.aload_n X d_Mo_behindStatement_135 rfl ?_
                  refine g_Mo_at (x := (r_at S17)) X rfl k_Mo_190 d_Mo_behindStatement_136 ?_
                  obtain ⟨g18, hres⟩ := hres
                  refine s_Mo_next (g := (r_next S17)) X g18 rfl d_Mo_behindStatement_139 ?_
                  refine V.aload_n X d_Mo_behindStatement_140 rfl ?_
                  refine V.dup X d_Mo_behindStatement_141 rfl ?_
                  refine g_Mo_deep (x := (r_deep S17)) X (rw_deep_next _ _) k_Mo_253 d_Mo_behindStatement_142 ?_
                  refine V.iconst (v := nI 1) X d_Mo_behindStatement_145 (by decide +kernel) ?_
                  obtain ⟨g19, hres⟩ := hres
                  refine V.isub X d_Mo_behindStatement_146 (pk_sub g19) ?_
                  refine p_Mo_deep X k_Mo_253 d_Mo_behindStatement_147 ?_
                  refine V.goto (tgt := 0) X d_Mo_behindStatement_150 (by decide) ?_
                  refine V.pick [0] rfl ?_
                  refine V.lvs (lv' := [(0, .ref (b 0))]) rfl ?_
                  exact ih  (w_deep (w_next S17 (va_up (r_next S17) ((r_since S) ((r_deep S) - 1)) (r_at S17))) ((r_deep S17) - 1)) hres
                · replace hres := or_t hres h119_16
                  refine V.iconst (v := nI 1) X d_Mo_behindStatement_122 (by decide +kernel) ?_
                  obtain ⟨rfl, rfl⟩ := hres
                  exact V.zret X d_Mo_behindStatement_123 (by first | exact Or.inl rfl | exact Or.inr rfl | (unfold bI; split; exact Or.inr rfl; exact Or.inl rfl)) rfl rfl
            · replace hres := or_t hres h41_10
              refine V.aload_n X d_Mo_behindStatement_44 rfl ?_
              refine g_Mo_kind X k_Mo_13 d_Mo_behindStatement_45 ?_
              refine V.aload_n X d_Mo_behindStatement_48 rfl ?_
              refine g_Mo_at (x := (r_at S)) X rfl k_Mo_190 d_Mo_behindStatement_49 ?_
              obtain ⟨g20, hres⟩ := hres
              refine l_Mo_kind (x := ((r_kind S) (r_at S))) X g20 (congrFun rfl _) d_Mo_behindStatement_52 ?_
              refine V.bipush (v := nI 9) X d_Mo_behindStatement_53 (by decide +kernel) ?_
              obtain ⟨g22, hres⟩ := hres
              refine V.cmpN_ne (tgt := 108) X d_Mo_behindStatement_55 (by decide) (by omega) (by omega) (fun h55_21 => ?_) (fun h55_21 => ?_)
              · replace hres := or_f hres h55_21
                refine V.iload_n X d_Mo_behindStatement_108 rfl ?_
                refine V.iconst (v := nI 5) X d_Mo_behindStatement_109 (by decide +kernel) ?_
                refine V.cmpN_ne (tgt := 130) X d_Mo_behindStatement_110 (by decide) (by omega) (by omega) (fun _ => ?_) (fun h => absurd h (by omega))
                refine V.aload_n X d_Mo_behindStatement_130 rfl ?_
                refine g_Mo_next X k_Mo_29 d_Mo_behindStatement_131 ?_
                refine V.iload_n X d_Mo_behindStatement_134 rfl ?_
                refine V.aload_n X d_Mo_behindStatement_135 rfl ?_
                refine g_Mo_at (x := (r_at S)) X rfl k_Mo_190 d_Mo_behindStatement_136 ?_
                obtain ⟨g24, hres⟩ := hres
                refine s_Mo_next (g := (r_next S)) X g24 rfl d_Mo_behindStatement_139 ?_
                refine V.aload_n X d_Mo_behindStatement_140 rfl ?_
                refine V.dup X d_Mo_behindStatement_141 rfl ?_
                refine g_Mo_deep (x := (r_deep S)) X (rw_deep_next _ _) k_Mo_253 d_Mo_behindStatement_142 ?_
                refine V.iconst (v := nI 1) X d_Mo_behindStatement_145 (by decide +kernel) ?_
                obtain ⟨g25, hres⟩ := hres
                refine V.isub X d_Mo_behindStatement_146 (pk_sub g25) ?_
                refine p_Mo_deep X k_Mo_253 d_Mo_behindStatement_147 ?_
                refine V.goto (tgt := 0) X d_Mo_behindStatement_150 (by decide) ?_
                refine V.pick [0] rfl ?_
                refine V.lvs (lv' := [(0, .ref (b 0))]) rfl ?_
                exact ih  (w_deep (w_next S (va_up (r_next S) ((r_since S) ((r_deep S) - 1)) (r_at S))) ((r_deep S) - 1)) hres
              · replace hres := or_t hres h55_21
                refine V.aload_n X d_Mo_behindStatement_58 rfl ?_
                refine g_Mo_next X k_Mo_29 d_Mo_behindStatement_59 ?_
                refine V.iload_n X d_Mo_behindStatement_62 rfl ?_
                refine V.aload_n X d_Mo_behindStatement_63 rfl ?_
                refine g_Mo_at (x := (r_at S)) X rfl k_Mo_190 d_Mo_behindStatement_64 ?_
                obtain ⟨g26, hres⟩ := hres
                refine s_Mo_next (g := (r_next S)) X g26 rfl d_Mo_behindStatement_67 ?_
                refine V.aload_n X d_Mo_behindStatement_68 rfl ?_
                refine g_Mo_within X k_Mo_84 d_Mo_behindStatement_69 ?_
                refine V.aload_n X d_Mo_behindStatement_72 rfl ?_
                refine g_Mo_deep (x := (r_deep S)) X (rw_deep_next _ _) k_Mo_253 d_Mo_behindStatement_73 ?_
                refine V.iconst (v := nI 1) X d_Mo_behindStatement_76 (by decide +kernel) ?_
                obtain ⟨g27, hres⟩ := hres
                refine V.isub X d_Mo_behindStatement_77 (pk_sub g27) ?_
                refine V.bipush (v := nI 9) X d_Mo_behindStatement_78 (by decide +kernel) ?_
                obtain ⟨g28, hres⟩ := hres
                refine s_Mo_within (g := (r_within S)) X g28 (rw_within_next _ _) d_Mo_behindStatement_80 ?_
                refine V.aload_n X d_Mo_behindStatement_81 rfl ?_
                refine g_Mo_since X k_Mo_87 d_Mo_behindStatement_82 ?_
                refine V.aload_n X d_Mo_behindStatement_85 rfl ?_
                refine g_Mo_deep (x := (r_deep S)) X (Eq.trans (rw_deep_within _ _) (rw_deep_next _ _)) k_Mo_253 d_Mo_behindStatement_86 ?_
                refine V.iconst (v := nI 1) X d_Mo_behindStatement_89 (by decide +kernel) ?_
                obtain ⟨g29, hres⟩ := hres
                refine V.isub X d_Mo_behindStatement_90 (pk_sub g29) ?_
                refine V.aload_n X d_Mo_behindStatement_91 rfl ?_
                refine g_Mo_at (x := (r_at S)) X (Eq.trans (rw_at_within _ _) (rw_at_next _ _)) k_Mo_190 d_Mo_behindStatement_92 ?_
                obtain ⟨g30, hres⟩ := hres
                refine s_Mo_since (g := (r_since S)) X g30 (Eq.trans (rw_since_within _ _) (rw_since_next _ _)) d_Mo_behindStatement_95 ?_
                refine V.aload_n X d_Mo_behindStatement_96 rfl ?_
                refine V.dup X d_Mo_behindStatement_97 rfl ?_
                refine g_Mo_at (x := (r_at S)) X (Eq.trans (rw_at_since _ _) (Eq.trans (rw_at_within _ _) (rw_at_next _ _))) k_Mo_190 d_Mo_behindStatement_98 ?_
                refine V.iconst (v := nI 1) X d_Mo_behindStatement_101 (by decide +kernel) ?_
                refine V.iadd X d_Mo_behindStatement_102 (nI_add _ _) ?_
                refine p_Mo_at X k_Mo_190 d_Mo_behindStatement_103 ?_
                refine V.iconst (v := nI 1) X d_Mo_behindStatement_106 (by decide +kernel) ?_
                obtain ⟨rfl, rfl⟩ := hres
                exact V.zret X d_Mo_behindStatement_107 (by first | exact Or.inl rfl | exact Or.inr rfl | (unfold bI; split; exact Or.inr rfl; exact Or.inl rfl)) rfl rfl
          · refine V.top (v' := .int (nI t5)) (by rw [qt5]; rfl) ?_
            obtain ⟨g31, hres⟩ := hres
            refine V.ifN_ge (tgt := 153) X d_Mo_behindStatement_11 (by decide) (by omega) ?_
            refine V.aload_n X d_Mo_behindStatement_153 rfl ?_
            refine V.bipush (v := nI 59) X d_Mo_behindStatement_154 (by decide +kernel) ?_
            obtain ⟨v32, S32, x32, hres⟩ := hres
            refine V.callV1 X (c_Mo_take (h + 1) x32) Y_Mo_take k_Mo_193 0 rfl rfl rfl rfl rfl (Rok.lt (by omega)) d_Mo_behindStatement_156 ?_
            obtain ⟨rfl, rfl⟩ := hres
            exact V.zret X d_Mo_behindStatement_159 (by first | exact Or.inl rfl | exact Or.inr rfl | (unfold bI; split; exact Or.inr rfl; exact Or.inl rfl)) rfl rfl
  refine V.lvs (lv' := [(0, .ref (b 0))]) rfl ?_
  refine V.lvs (lv' := [(0, .ref (b 0))]) rfl ?_
  obtain ⟨n, hres⟩ := hres
  exact (go n)  S hres
def mo_statements_go : Nat → Nat → MS → MS → Prop
  | 0, _, _, _ => False
  | n + 1, _, S, S' => ((r_wrong S) = none ∧ (∃ v4 S4, mo_beginStatement S v4 S4 ∧ ((v4 = true ∧ (∃ v6 S6, mo_behindStatement S4 v6 S6 ∧ ((v6 = true ∧ (mo_statements_go n 0  S6 S')) ∨ (¬ v6 = true ∧ (∃ S9, mo_need 6 S6 S9 ∧ (S' = S9)))))) ∨ (¬ v4 = true ∧ (mo_statements_go n 0  S4 S'))))) ∨ (∃ t3, (r_wrong S) = some t3 ∧ (t3 < 2147483648 ∧ (∃ S11, mo_need 6 S S11 ∧ (S' = S11))))
def mo_statements (S : MS) (S' : MS) : Prop := (r_block S) < 8 ∧ (∃ n, mo_statements_go n 0  (w_deep (w_body S (va_up (r_body S) (r_block S) (r_at S))) 0) S')
set_option maxHeartbeats 4000000 in
set_option maxRecDepth 100000 in
theorem c_Mo_statements {l : Launch} {z : Zt} {b : Nat → Nat} {S : MS} {S' : MS} (h : Nat) (hres : mo_statements S S') : XC l (Gz z) (h + 7) y_Mo_statements b_Mo_statements 2 none [.ref (b 0)] (mw z b S) (.inl none) (mw z b S') := by
  rw [mo_statements] at hres
  refine XC.ofV (by decide +kernel) rfl ?_
  intro p e s m below meth c X hnm
  have go : ∀ n : Nat, (∀ (S : MS), mo_statements_go n 0  S S' → V p l e (Rm (h + 7)) s m ([.ref (b 0)] : List Value).toArray below meth c (Gz z) 2 0 0 (XE below (Gz z) (.inl none) (mw z b S') ([.ref (b 0)] : List Value).toArray s) (mw z b S) 20 [(0, .ref (b 0)), (1, .int (nI 1))] []) := by
    intro n
    induction n with
    | zero =>
      skip
      · intro S hres
        exact absurd hres (by simp only [mo_statements_go, not_false_eq_true])
    | succ n ih =>
      skip
      · intro S hres
        rw [mo_statements_go] at hres
        refine V.iload_n X d_Mo_statements_20 rfl ?_
        refine V.ifN_eq (tgt := 46) X d_Mo_statements_21 (by decide) (by decide) (fun h => absurd h (by decide)) (fun _ => ?_)
        refine V.aload_n X d_Mo_statements_24 rfl ?_
        refine g_Mo_wrong (x := (r_wrong S)) X rfl k_Mo_187 d_Mo_statements_25 ?_
        rcases hres with ⟨qt3, hres⟩ | ⟨t3, qt3, hres⟩
        · refine V.top (v' := .int (-1)) (by rw [qt3]; rfl) ?_
          refine V.if_ge (tgt := 46) X d_Mo_statements_28 (by decide) (fun h => absurd h (by decide)) (fun _ => ?_)
          refine V.aload_n X d_Mo_statements_31 rfl ?_
          obtain ⟨v4, S4, x4, hres⟩ := hres
          refine V.callV1 X (c_Mo_beginStatement (h + 0) x4) Y_Mo_beginStatement k_Mo_265 0 rfl rfl rfl rfl rfl (Rok.lt (by omega)) d_Mo_statements_32 ?_
          refine V.ifB_eq (tgt := 20) X d_Mo_statements_35 (by decide) (fun h35_5 => ?_) (fun h35_5 => ?_)
          · replace hres := or_f hres (by rw [h35_5]; decide)
            refine V.lvs (lv' := [(0, .ref (b 0)), (1, .int (nI 1))]) rfl ?_
            exact ih  S4 hres
          · replace hres := or_t hres h35_5
            refine V.aload_n X d_Mo_statements_38 rfl ?_
            obtain ⟨v6, S6, x6, hres⟩ := hres
            refine V.callV1 X (c_Mo_behindStatement (h + 3) x6) Y_Mo_behindStatement k_Mo_269 0 rfl rfl rfl rfl rfl (Rok.lt (by omega)) d_Mo_statements_39 ?_
            refine V.istore_n (lv' := [(0, .ref (b 0)), (1, .int (bI v6))]) X d_Mo_statements_42 (by decide) rfl ?_
            refine V.goto (tgt := 20) X d_Mo_statements_43 (by decide) ?_
            rcases hres with ⟨u7, hres⟩ | ⟨u7, hres⟩
            · refine V.lvs (lv' := [(0, .ref (b 0)), (1, .int (nI 1))]) (by rw [u7]; rfl) ?_
              refine V.lvs (lv' := [(0, .ref (b 0)), (1, .int (nI 1))]) rfl ?_
              exact ih  S6 hres
            · replace u7 := eq_false_of_ne_true u7
              refine V.iload_n X d_Mo_statements_20 rfl ?_
              refine V.ifB_eq (tgt := 46) X d_Mo_statements_21 (by decide) (fun _ => ?_) (fun h => absurd (u7.symm.trans h) (by decide))
              refine V.aload_n X d_Mo_statements_46 rfl ?_
              refine V.bipush (v := nI 6) X d_Mo_statements_47 (by decide +kernel) ?_
              obtain ⟨S9, x9, hres⟩ := hres
              refine V.callV0 X (c_Mo_need (h + 4) x9) Y_Mo_need k_Mo_227 0 rfl rfl rfl rfl rfl (Rok.lt (by omega)) d_Mo_statements_49 ?_
              subst hres
              exact V.vret X d_Mo_statements_52 rfl rfl
        · refine V.top (v' := .int (nI t3)) (by rw [qt3]; rfl) ?_
          obtain ⟨g10, hres⟩ := hres
          refine V.ifN_ge (tgt := 46) X d_Mo_statements_28 (by decide) (by omega) ?_
          refine V.aload_n X d_Mo_statements_46 rfl ?_
          refine V.bipush (v := nI 6) X d_Mo_statements_47 (by decide +kernel) ?_
          obtain ⟨S11, x11, hres⟩ := hres
          refine V.callV0 X (c_Mo_need (h + 4) x11) Y_Mo_need k_Mo_227 0 rfl rfl rfl rfl rfl (Rok.lt (by omega)) d_Mo_statements_49 ?_
          subst hres
          exact V.vret X d_Mo_statements_52 rfl rfl
  refine V.lvs (lv' := [(0, .ref (b 0))]) rfl ?_
  refine V.aload_n X d_Mo_statements_0 rfl ?_
  refine g_Mo_body X k_Mo_66 d_Mo_statements_1 ?_
  refine V.aload_n X d_Mo_statements_4 rfl ?_
  refine g_Mo_block (x := (r_block S)) X rfl k_Mo_208 d_Mo_statements_5 ?_
  refine V.aload_n X d_Mo_statements_8 rfl ?_
  refine g_Mo_at (x := (r_at S)) X rfl k_Mo_190 d_Mo_statements_9 ?_
  obtain ⟨g12, hres⟩ := hres
  refine s_Mo_body (g := (r_body S)) X g12 rfl d_Mo_statements_12 ?_
  refine V.aload_n X d_Mo_statements_13 rfl ?_
  refine V.iconst (v := nI 0) X d_Mo_statements_14 (by decide +kernel) ?_
  refine p_Mo_deep X k_Mo_253 d_Mo_statements_15 ?_
  refine V.iconst (v := nI 1) X d_Mo_statements_18 (by decide +kernel) ?_
  refine V.istore_n (lv' := [(0, .ref (b 0)), (1, .int (nI 1))]) X d_Mo_statements_19 (by decide) rfl ?_
  refine V.lvs (lv' := [(0, .ref (b 0)), (1, .int (nI 1))]) rfl ?_
  obtain ⟨n, hres⟩ := hres
  exact (go n)  (w_deep (w_body S (va_up (r_body S) (r_block S) (r_at S))) 0) hres
def mo_readProgram_go : Nat → Nat → MS → MS → Prop
  | 0, _, _, _ => False
  | n + 1, _, S, S' => ((r_wrong S) = none ∧ (∃ v4 S4, mo_take 4 S v4 S4 ∧ ((v4 = true ∧ (∃ S49, mo_procedure S4 S49 ∧ (mo_readProgram_go n 0  S49 S'))) ∨ (¬ v4 = true ∧ (∃ S6, mo_need 5 S4 S6 ∧ (((r_wrong S6) = none ∧ (∃ S9, mo_statements S6 S9 ∧ ((r_block S9) < 8 ∧ ((((r_around S9) (r_block S9)) = none ∧ (∃ S16, mo_need 46 (w_block S9 (r_block S9)) S16 ∧ (((r_wrong S16) = none ∧ ((r_at S16) < 155 ∧ (((r_kind S16) (r_at S16)) < 2147483648 ∧ ((((r_kind S16) (r_at S16)) = 0 ∧ (S' = S16)) ∨ (¬ ((r_kind S16) (r_at S16)) = 0 ∧ (∃ S22, mo_blame (r_at S16) S16 S22 ∧ (S' = S22))))))) ∨ (∃ t18, (r_wrong S16) = some t18 ∧ (t18 < 2147483648 ∧ (S' = S16)))))) ∨ (∃ t12, ((r_around S9) (r_block S9)) = some t12 ∧ (t12 < 2147483648 ∧ ((r_block S9) < 8 ∧ (∃ S28, mo_need 59 (w_block S9 t12) S28 ∧ (mo_readProgram_go n 0  S28 S'))))))))) ∨ (∃ t8, (r_wrong S6) = some t8 ∧ (t8 < 2147483648 ∧ ((r_block S6) < 8 ∧ ((((r_around S6) (r_block S6)) = none ∧ (∃ S36, mo_need 46 (w_block S6 (r_block S6)) S36 ∧ (((r_wrong S36) = none ∧ ((r_at S36) < 155 ∧ (((r_kind S36) (r_at S36)) < 2147483648 ∧ ((((r_kind S36) (r_at S36)) = 0 ∧ (S' = S36)) ∨ (¬ ((r_kind S36) (r_at S36)) = 0 ∧ (∃ S42, mo_blame (r_at S36) S36 S42 ∧ (S' = S42))))))) ∨ (∃ t38, (r_wrong S36) = some t38 ∧ (t38 < 2147483648 ∧ (S' = S36)))))) ∨ (∃ t32, ((r_around S6) (r_block S6)) = some t32 ∧ (t32 < 2147483648 ∧ ((r_block S6) < 8 ∧ (∃ S48, mo_need 59 (w_block S6 t32) S48 ∧ (mo_readProgram_go n 0  S48 S'))))))))))))))) ∨ (∃ t3, (r_wrong S) = some t3 ∧ (t3 < 2147483648 ∧ (∃ S51, mo_need 46 S S51 ∧ (((r_wrong S51) = none ∧ ((r_at S51) < 155 ∧ (((r_kind S51) (r_at S51)) < 2147483648 ∧ ((((r_kind S51) (r_at S51)) = 0 ∧ (S' = S51)) ∨ (¬ ((r_kind S51) (r_at S51)) = 0 ∧ (∃ S57, mo_blame (r_at S51) S51 S57 ∧ (S' = S57))))))) ∨ (∃ t53, (r_wrong S51) = some t53 ∧ (t53 < 2147483648 ∧ (S' = S51)))))))
def mo_readProgram (S : MS) (S' : MS) : Prop := ∃ S59, mo_enter none (w_blocks (w_procedures (w_variables (w_symbols S 0) 0) 0) 0) S59 ∧ (∃ S60, mo_beginBlock S59 S60 ∧ (∃ n, mo_readProgram_go n 0  S60 S'))
set_option maxHeartbeats 4000000 in
set_option maxRecDepth 100000 in
theorem c_Mo_readProgram {l : Launch} {z : Zt} {b : Nat → Nat} {S : MS} {S' : MS} (h : Nat) (hres : mo_readProgram S S') : XC l (Gz z) (h + 8) y_Mo_readProgram b_Mo_readProgram 2 none [.ref (b 0)] (mw z b S) (.inl none) (mw z b S') := by
  rw [mo_readProgram] at hres
  refine XC.ofV (by decide +kernel) rfl ?_
  intro p e s m below meth c X hnm
  have go : ∀ n : Nat, (∀ (S : MS), mo_readProgram_go n 0  S S' → V p l e (Rm (h + 8)) s m ([.ref (b 0)] : List Value).toArray below meth c (Gz z) 2 0 0 (XE below (Gz z) (.inl none) (mw z b S') ([.ref (b 0)] : List Value).toArray s) (mw z b S) 31 [(0, .ref (b 0)), (1, .int (nI 1))] []) := by
    intro n
    induction n with
    | zero =>
      skip
      · intro S hres
        exact absurd hres (by simp only [mo_readProgram_go, not_false_eq_true])
    | succ n ih =>
      skip
      · intro S hres
        rw [mo_readProgram_go] at hres
        refine V.iload_n X d_Mo_readProgram_31 rfl ?_
        refine V.ifN_eq (tgt := 128) X d_Mo_readProgram_32 (by decide) (by decide) (fun h => absurd h (by decide)) (fun _ => ?_)
        refine V.aload_n X d_Mo_readProgram_35 rfl ?_
        refine g_Mo_wrong (x := (r_wrong S)) X rfl k_Mo_187 d_Mo_readProgram_36 ?_
        rcases hres with ⟨qt3, hres⟩ | ⟨t3, qt3, hres⟩
        · refine V.top (v' := .int (-1)) (by rw [qt3]; rfl) ?_
          refine V.if_ge (tgt := 128) X d_Mo_readProgram_39 (by decide) (fun h => absurd h (by decide)) (fun _ => ?_)
          refine V.aload_n X d_Mo_readProgram_42 rfl ?_
          refine V.iconst (v := nI 4) X d_Mo_readProgram_43 (by decide +kernel) ?_
          obtain ⟨v4, S4, x4, hres⟩ := hres
          refine V.callV1 X (c_Mo_take (h + 6) x4) Y_Mo_take k_Mo_193 0 rfl rfl rfl rfl rfl (Rok.lt (by omega)) d_Mo_readProgram_44 ?_
          refine V.ifB_eq (tgt := 57) X d_Mo_readProgram_47 (by decide) (fun h47_5 => ?_) (fun h47_5 => ?_)
          · replace hres := or_f hres (by rw [h47_5]; decide)
            refine V.aload_n X d_Mo_readProgram_57 rfl ?_
            refine V.iconst (v := nI 5) X d_Mo_readProgram_58 (by decide +kernel) ?_
            obtain ⟨S6, x6, hres⟩ := hres
            refine V.callV0 X (c_Mo_need (h + 5) x6) Y_Mo_need k_Mo_227 0 rfl rfl rfl rfl rfl (Rok.lt (by omega)) d_Mo_readProgram_59 ?_
            refine V.aload_n X d_Mo_readProgram_62 rfl ?_
            refine g_Mo_wrong (x := (r_wrong S6)) X rfl k_Mo_187 d_Mo_readProgram_63 ?_
            rcases hres with ⟨qt8, hres⟩ | ⟨t8, qt8, hres⟩
            · refine V.top (v' := .int (-1)) (by rw [qt8]; rfl) ?_
              refine V.if_ge (tgt := 73) X d_Mo_readProgram_66 (by decide) (fun h => absurd h (by decide)) (fun _ => ?_)
              refine V.aload_n X d_Mo_readProgram_69 rfl ?_
              obtain ⟨S9, x9, hres⟩ := hres
              refine V.callV0 X (c_Mo_statements (h + 0) x9) Y_Mo_statements k_Mo_275 0 rfl rfl rfl rfl rfl (Rok.lt (by omega)) d_Mo_readProgram_70 ?_
              refine V.aload_n X d_Mo_readProgram_73 rfl ?_
              refine g_Mo_around X k_Mo_63 d_Mo_readProgram_74 ?_
              refine V.aload_n X d_Mo_readProgram_77 rfl ?_
              refine g_Mo_block (x := (r_block S9)) X rfl k_Mo_208 d_Mo_readProgram_78 ?_
              obtain ⟨g10, hres⟩ := hres
              refine l_Mo_around (x := ((r_around S9) (r_block S9))) X g10 (congrFun rfl _) d_Mo_readProgram_81 ?_
              rcases hres with ⟨qt12, hres⟩ | ⟨t12, qt12, hres⟩
              · refine V.top (v' := .int (-1)) (by rw [qt12]; rfl) ?_
                refine V.if_lt (tgt := 89) X d_Mo_readProgram_82 (by decide) (fun _ => ?_) (fun h => absurd (by decide) h)
                refine V.iconst (v := nI 0) X d_Mo_readProgram_89 (by decide +kernel) ?_
                refine V.istore_n (lv' := [(0, .ref (b 0)), (1, .int (nI 0))]) X d_Mo_readProgram_90 (by decide) rfl ?_
                refine V.aload_n X d_Mo_readProgram_91 rfl ?_
                refine V.iload_n X d_Mo_readProgram_92 rfl ?_
                refine V.ifN_eq (tgt := 108) X d_Mo_readProgram_93 (by decide) (by decide) (fun _ => ?_) (fun h => absurd h (by decide))
                refine V.aload_n X d_Mo_readProgram_108 rfl ?_
                refine g_Mo_block (x := (r_block S9)) X rfl k_Mo_208 d_Mo_readProgram_109 ?_
                refine p_Mo_block X k_Mo_208 d_Mo_readProgram_112 ?_
                refine V.iload_n X d_Mo_readProgram_115 rfl ?_
                refine V.ifN_eq (tgt := 31) X d_Mo_readProgram_116 (by decide) (by decide) (fun _ => ?_) (fun h => absurd h (by decide))
                refine V.iload_n X d_Mo_readProgram_31 rfl ?_
                refine V.ifN_eq (tgt := 128) X d_Mo_readProgram_32 (by decide) (by decide) (fun _ => ?_) (fun h => absurd h (by decide))
                refine V.aload_n X d_Mo_readProgram_128 rfl ?_
                refine V.bipush (v := nI 46) X d_Mo_readProgram_129 (by decide +kernel) ?_
                obtain ⟨S16, x16, hres⟩ := hres
                refine V.callV0 X (c_Mo_need (h + 5) x16) Y_Mo_need k_Mo_227 0 rfl rfl rfl rfl rfl (Rok.lt (by omega)) d_Mo_readProgram_131 ?_
                refine V.aload_n X d_Mo_readProgram_134 rfl ?_
                refine g_Mo_wrong (x := (r_wrong S16)) X rfl k_Mo_187 d_Mo_readProgram_135 ?_
                rcases hres with ⟨qt18, hres⟩ | ⟨t18, qt18, hres⟩
                · refine V.top (v' := .int (-1)) (by rw [qt18]; rfl) ?_
                  refine V.if_ge (tgt := 161) X d_Mo_readProgram_138 (by decide) (fun h => absurd h (by decide)) (fun _ => ?_)
                  refine V.aload_n X d_Mo_readProgram_141 rfl ?_
                  refine g_Mo_kind X k_Mo_13 d_Mo_readProgram_142 ?_
                  refine V.aload_n X d_Mo_readProgram_145 rfl ?_
                  refine g_Mo_at (x := (r_at S16)) X rfl k_Mo_190 d_Mo_readProgram_146 ?_
                  obtain ⟨g19, hres⟩ := hres
                  refine l_Mo_kind (x := ((r_kind S16) (r_at S16))) X g19 (congrFun rfl _) d_Mo_readProgram_149 ?_
                  obtain ⟨g21, hres⟩ := hres
                  refine V.ifN_eq (tgt := 161) X d_Mo_readProgram_150 (by decide) (by omega) (fun h150_20 => ?_) (fun h150_20 => ?_)
                  · replace hres := or_t hres h150_20
                    subst hres
                    exact V.vret X d_Mo_readProgram_161 rfl rfl
                  · replace hres := or_f hres h150_20
                    refine V.aload_n X d_Mo_readProgram_153 rfl ?_
                    refine V.aload_n X d_Mo_readProgram_154 rfl ?_
                    refine g_Mo_at (x := (r_at S16)) X rfl k_Mo_190 d_Mo_readProgram_155 ?_
                    obtain ⟨S22, x22, hres⟩ := hres
                    refine V.callV0 X (c_Mo_blame (h + 6) x22) Y_Mo_blame k_Mo_196 0 rfl rfl rfl rfl rfl (Rok.lt (by omega)) d_Mo_readProgram_158 ?_
                    subst hres
                    exact V.vret X d_Mo_readProgram_161 rfl rfl
                · refine V.top (v' := .int (nI t18)) (by rw [qt18]; rfl) ?_
                  obtain ⟨g23, hres⟩ := hres
                  refine V.ifN_ge (tgt := 161) X d_Mo_readProgram_138 (by decide) (by omega) ?_
                  subst hres
                  exact V.vret X d_Mo_readProgram_161 rfl rfl
              · refine V.top (v' := .int (nI t12)) (by rw [qt12]; rfl) ?_
                obtain ⟨g24, hres⟩ := hres
                refine V.ifN_lt (tgt := 89) X d_Mo_readProgram_82 (by decide) (by omega) ?_
                refine V.iconst (v := nI 1) X d_Mo_readProgram_85 (by decide +kernel) ?_
                refine V.goto (tgt := 90) X d_Mo_readProgram_86 (by decide) ?_
                refine V.istore_n (lv' := [(0, .ref (b 0)), (1, .int (nI 1))]) X d_Mo_readProgram_90 (by decide) rfl ?_
                refine V.aload_n X d_Mo_readProgram_91 rfl ?_
                refine V.iload_n X d_Mo_readProgram_92 rfl ?_
                refine V.ifN_eq (tgt := 108) X d_Mo_readProgram_93 (by decide) (by decide) (fun h => absurd h (by decide)) (fun _ => ?_)
                refine V.aload_n X d_Mo_readProgram_96 rfl ?_
                refine g_Mo_around X k_Mo_63 d_Mo_readProgram_97 ?_
                refine V.aload_n X d_Mo_readProgram_100 rfl ?_
                refine g_Mo_block (x := (r_block S9)) X rfl k_Mo_208 d_Mo_readProgram_101 ?_
                obtain ⟨g26, hres⟩ := hres
                refine l_Mo_around (x := ((r_around S9) (r_block S9))) X g26 (congrFun rfl _) d_Mo_readProgram_104 ?_
                refine V.top (v' := .int (nI t12)) (by rw [qt12]; rfl) ?_
                refine V.goto (tgt := 112) X d_Mo_readProgram_105 (by decide) ?_
                refine p_Mo_block X k_Mo_208 d_Mo_readProgram_112 ?_
                refine V.iload_n X d_Mo_readProgram_115 rfl ?_
                refine V.ifN_eq (tgt := 31) X d_Mo_readProgram_116 (by decide) (by decide) (fun h => absurd h (by decide)) (fun _ => ?_)
                refine V.aload_n X d_Mo_readProgram_119 rfl ?_
                refine V.bipush (v := nI 59) X d_Mo_readProgram_120 (by decide +kernel) ?_
                obtain ⟨S28, x28, hres⟩ := hres
                refine V.callV0 X (c_Mo_need (h + 5) x28) Y_Mo_need k_Mo_227 0 rfl rfl rfl rfl rfl (Rok.lt (by omega)) d_Mo_readProgram_122 ?_
                refine V.goto (tgt := 31) X d_Mo_readProgram_125 (by decide) ?_
                refine V.lvs (lv' := [(0, .ref (b 0)), (1, .int (nI 1))]) rfl ?_
                exact ih  S28 hres
            · refine V.top (v' := .int (nI t8)) (by rw [qt8]; rfl) ?_
              obtain ⟨g29, hres⟩ := hres
              refine V.ifN_ge (tgt := 73) X d_Mo_readProgram_66 (by decide) (by omega) ?_
              refine V.aload_n X d_Mo_readProgram_73 rfl ?_
              refine g_Mo_around X k_Mo_63 d_Mo_readProgram_74 ?_
              refine V.aload_n X d_Mo_readProgram_77 rfl ?_
              refine g_Mo_block (x := (r_block S6)) X rfl k_Mo_208 d_Mo_readProgram_78 ?_
              obtain ⟨g30, hres⟩ := hres
              refine l_Mo_around (x := ((r_around S6) (r_block S6))) X g30 (congrFun rfl _) d_Mo_readProgram_81 ?_
              rcases hres with ⟨qt32, hres⟩ | ⟨t32, qt32, hres⟩
              · refine V.top (v' := .int (-1)) (by rw [qt32]; rfl) ?_
                refine V.if_lt (tgt := 89) X d_Mo_readProgram_82 (by decide) (fun _ => ?_) (fun h => absurd (by decide) h)
                refine V.iconst (v := nI 0) X d_Mo_readProgram_89 (by decide +kernel) ?_
                refine V.istore_n (lv' := [(0, .ref (b 0)), (1, .int (nI 0))]) X d_Mo_readProgram_90 (by decide) rfl ?_
                refine V.aload_n X d_Mo_readProgram_91 rfl ?_
                refine V.iload_n X d_Mo_readProgram_92 rfl ?_
                refine V.ifN_eq (tgt := 108) X d_Mo_readProgram_93 (by decide) (by decide) (fun _ => ?_) (fun h => absurd h (by decide))
                refine V.aload_n X d_Mo_readProgram_108 rfl ?_
                refine g_Mo_block (x := (r_block S6)) X rfl k_Mo_208 d_Mo_readProgram_109 ?_
                refine p_Mo_block X k_Mo_208 d_Mo_readProgram_112 ?_
                refine V.iload_n X d_Mo_readProgram_115 rfl ?_
                refine V.ifN_eq (tgt := 31) X d_Mo_readProgram_116 (by decide) (by decide) (fun _ => ?_) (fun h => absurd h (by decide))
                refine V.iload_n X d_Mo_readProgram_31 rfl ?_
                refine V.ifN_eq (tgt := 128) X d_Mo_readProgram_32 (by decide) (by decide) (fun _ => ?_) (fun h => absurd h (by decide))
                refine V.aload_n X d_Mo_readProgram_128 rfl ?_
                refine V.bipush (v := nI 46) X d_Mo_readProgram_129 (by decide +kernel) ?_
                obtain ⟨S36, x36, hres⟩ := hres
                refine V.callV0 X (c_Mo_need (h + 5) x36) Y_Mo_need k_Mo_227 0 rfl rfl rfl rfl rfl (Rok.lt (by omega)) d_Mo_readProgram_131 ?_
                refine V.aload_n X d_Mo_readProgram_134 rfl ?_
                refine g_Mo_wrong (x := (r_wrong S36)) X rfl k_Mo_187 d_Mo_readProgram_135 ?_
                rcases hres with ⟨qt38, hres⟩ | ⟨t38, qt38, hres⟩
                · refine V.top (v' := .int (-1)) (by rw [qt38]; rfl) ?_
                  refine V.if_ge (tgt := 161) X d_Mo_readProgram_138 (by decide) (fun h => absurd h (by decide)) (fun _ => ?_)
                  refine V.aload_n X d_Mo_readProgram_141 rfl ?_
                  refine g_Mo_kind X k_Mo_13 d_Mo_readProgram_142 ?_
                  refine V.aload_n X d_Mo_readProgram_145 rfl ?_
                  refine g_Mo_at (x := (r_at S36)) X rfl k_Mo_190 d_Mo_readProgram_146 ?_
                  obtain ⟨g39, hres⟩ := hres
                  refine l_Mo_kind (x := ((r_kind S36) (r_at S36))) X g39 (congrFun rfl _) d_Mo_readProgram_149 ?_
                  obtain ⟨g41, hres⟩ := hres
                  refine V.ifN_eq (tgt := 161) X d_Mo_readProgram_150 (by decide) (by omega) (fun h150_40 => ?_) (fun h150_40 => ?_)
                  · replace hres := or_t hres h150_40
                    subst hres
                    exact V.vret X d_Mo_readProgram_161 rfl rfl
                  · replace hres := or_f hres h150_40
                    refine V.aload_n X d_Mo_readProgram_153 rfl ?_
                    refine V.aload_n X d_Mo_readProgram_154 rfl ?_
                    refine g_Mo_at (x := (r_at S36)) X rfl k_Mo_190 d_Mo_readProgram_155 ?_
                    obtain ⟨S42, x42, hres⟩ := hres
                    refine V.callV0 X (c_Mo_blame (h + 6) x42) Y_Mo_blame k_Mo_196 0 rfl rfl rfl rfl rfl (Rok.lt (by omega)) d_Mo_readProgram_158 ?_
                    subst hres
                    exact V.vret X d_Mo_readProgram_161 rfl rfl
                · refine V.top (v' := .int (nI t38)) (by rw [qt38]; rfl) ?_
                  obtain ⟨g43, hres⟩ := hres
                  refine V.ifN_ge (tgt := 161) X d_Mo_readProgram_138 (by decide) (by omega) ?_
                  subst hres
                  exact V.vret X d_Mo_readProgram_161 rfl rfl
              · refine V.top (v' := .int (nI t32)) (by rw [qt32]; rfl) ?_
                obtain ⟨g44, hres⟩ := hres
                refine V.ifN_lt (tgt := 89) X d_Mo_readProgram_82 (by decide) (by omega) ?_
                refine V.iconst (v := nI 1) X d_Mo_readProgram_85 (by decide +kernel) ?_
                refine V.goto (tgt := 90) X d_Mo_readProgram_86 (by decide) ?_
                refine V.istore_n (lv' := [(0, .ref (b 0)), (1, .int (nI 1))]) X d_Mo_readProgram_90 (by decide) rfl ?_
                refine V.aload_n X d_Mo_readProgram_91 rfl ?_
                refine V.iload_n X d_Mo_readProgram_92 rfl ?_
                refine V.ifN_eq (tgt := 108) X d_Mo_readProgram_93 (by decide) (by decide) (fun h => absurd h (by decide)) (fun _ => ?_)
                refine V.aload_n X d_Mo_readProgram_96 rfl ?_
                refine g_Mo_around X k_Mo_63 d_Mo_readProgram_97 ?_
                refine V.aload_n X d_Mo_readProgram_100 rfl ?_
                refine g_Mo_block (x := (r_block S6)) X rfl k_Mo_208 d_Mo_readProgram_101 ?_
                obtain ⟨g46, hres⟩ := hres
                refine l_Mo_around (x := ((r_around S6) (r_block S6))) X g46 (congrFun rfl _) d_Mo_readProgram_104 ?_
                refine V.top (v' := .int (nI t32)) (by rw [qt32]; rfl) ?_
                refine V.goto (tgt := 112) X d_Mo_readProgram_105 (by decide) ?_
                refine p_Mo_block X k_Mo_208 d_Mo_readProgram_112 ?_
                refine V.iload_n X d_Mo_readProgram_115 rfl ?_
                refine V.ifN_eq (tgt := 31) X d_Mo_readProgram_116 (by decide) (by decide) (fun h => absurd h (by decide)) (fun _ => ?_)
                refine V.aload_n X d_Mo_readProgram_119 rfl ?_
                refine V.bipush (v := nI 59) X d_Mo_readProgram_120 (by decide +kernel) ?_
                obtain ⟨S48, x48, hres⟩ := hres
                refine V.callV0 X (c_Mo_need (h + 5) x48) Y_Mo_need k_Mo_227 0 rfl rfl rfl rfl rfl (Rok.lt (by omega)) d_Mo_readProgram_122 ?_
                refine V.goto (tgt := 31) X d_Mo_readProgram_125 (by decide) ?_
                refine V.lvs (lv' := [(0, .ref (b 0)), (1, .int (nI 1))]) rfl ?_
                exact ih  S48 hres
          · replace hres := or_t hres h47_5
            refine V.aload_n X d_Mo_readProgram_50 rfl ?_
            obtain ⟨S49, x49, hres⟩ := hres
            refine V.callV0 X (c_Mo_procedure (h + 3) x49) Y_Mo_procedure k_Mo_272 0 rfl rfl rfl rfl rfl (Rok.lt (by omega)) d_Mo_readProgram_51 ?_
            refine V.goto (tgt := 31) X d_Mo_readProgram_54 (by decide) ?_
            refine V.lvs (lv' := [(0, .ref (b 0)), (1, .int (nI 1))]) rfl ?_
            exact ih  S49 hres
        · refine V.top (v' := .int (nI t3)) (by rw [qt3]; rfl) ?_
          obtain ⟨g50, hres⟩ := hres
          refine V.ifN_ge (tgt := 128) X d_Mo_readProgram_39 (by decide) (by omega) ?_
          refine V.aload_n X d_Mo_readProgram_128 rfl ?_
          refine V.bipush (v := nI 46) X d_Mo_readProgram_129 (by decide +kernel) ?_
          obtain ⟨S51, x51, hres⟩ := hres
          refine V.callV0 X (c_Mo_need (h + 5) x51) Y_Mo_need k_Mo_227 0 rfl rfl rfl rfl rfl (Rok.lt (by omega)) d_Mo_readProgram_131 ?_
          refine V.aload_n X d_Mo_readProgram_134 rfl ?_
          refine g_Mo_wrong (x := (r_wrong S51)) X rfl k_Mo_187 d_Mo_readProgram_135 ?_
          rcases hres with ⟨qt53, hres⟩ | ⟨t53, qt53, hres⟩
          · refine V.top (v' := .int (-1)) (by rw [qt53]; rfl) ?_
            refine V.if_ge (tgt := 161) X d_Mo_readProgram_138 (by decide) (fun h => absurd h (by decide)) (fun _ => ?_)
            refine V.aload_n X d_Mo_readProgram_141 rfl ?_
            refine g_Mo_kind X k_Mo_13 d_Mo_readProgram_142 ?_
            refine V.aload_n X d_Mo_readProgram_145 rfl ?_
            refine g_Mo_at (x := (r_at S51)) X rfl k_Mo_190 d_Mo_readProgram_146 ?_
            obtain ⟨g54, hres⟩ := hres
            refine l_Mo_kind (x := ((r_kind S51) (r_at S51))) X g54 (congrFun rfl _) d_Mo_readProgram_149 ?_
            obtain ⟨g56, hres⟩ := hres
            refine V.ifN_eq (tgt := 161) X d_Mo_readProgram_150 (by decide) (by omega) (fun h150_55 => ?_) (fun h150_55 => ?_)
            · replace hres := or_t hres h150_55
              subst hres
              exact V.vret X d_Mo_readProgram_161 rfl rfl
            · replace hres := or_f hres h150_55
              refine V.aload_n X d_Mo_readProgram_153 rfl ?_
              refine V.aload_n X d_Mo_readProgram_154 rfl ?_
              refine g_Mo_at (x := (r_at S51)) X rfl k_Mo_190 d_Mo_readProgram_155 ?_
              obtain ⟨S57, x57, hres⟩ := hres
              refine V.callV0 X (c_Mo_blame (h + 6) x57) Y_Mo_blame k_Mo_196 0 rfl rfl rfl rfl rfl (Rok.lt (by omega)) d_Mo_readProgram_158 ?_
              subst hres
              exact V.vret X d_Mo_readProgram_161 rfl rfl
          · refine V.top (v' := .int (nI t53)) (by rw [qt53]; rfl) ?_
            obtain ⟨g58, hres⟩ := hres
            refine V.ifN_ge (tgt := 161) X d_Mo_readProgram_138 (by decide) (by omega) ?_
            subst hres
            exact V.vret X d_Mo_readProgram_161 rfl rfl
  refine V.lvs (lv' := [(0, .ref (b 0))]) rfl ?_
  refine V.aload_n X d_Mo_readProgram_0 rfl ?_
  refine V.iconst (v := nI 0) X d_Mo_readProgram_1 (by decide +kernel) ?_
  refine p_Mo_symbols X k_Mo_205 d_Mo_readProgram_2 ?_
  refine V.aload_n X d_Mo_readProgram_5 rfl ?_
  refine V.iconst (v := nI 0) X d_Mo_readProgram_6 (by decide +kernel) ?_
  refine p_Mo_variables X k_Mo_202 d_Mo_readProgram_7 ?_
  refine V.aload_n X d_Mo_readProgram_10 rfl ?_
  refine V.iconst (v := nI 0) X d_Mo_readProgram_11 (by decide +kernel) ?_
  refine p_Mo_procedures X k_Mo_199 d_Mo_readProgram_12 ?_
  refine V.aload_n X d_Mo_readProgram_15 rfl ?_
  refine V.iconst (v := nI 0) X d_Mo_readProgram_16 (by decide +kernel) ?_
  refine p_Mo_blocks X k_Mo_211 d_Mo_readProgram_17 ?_
  refine V.aload_n X d_Mo_readProgram_20 rfl ?_
  refine V.iconst (v := -1) X d_Mo_readProgram_21 (by decide +kernel) ?_
  obtain ⟨S59, x59, hres⟩ := hres
  refine V.callV0 X (c_Mo_enter (h + 6) x59) Y_Mo_enter k_Mo_221 0 rfl rfl rfl rfl rfl (Rok.lt (by omega)) d_Mo_readProgram_22 ?_
  refine V.aload_n X d_Mo_readProgram_25 rfl ?_
  obtain ⟨S60, x60, hres⟩ := hres
  refine V.callV0 X (c_Mo_beginBlock (h + 4) x60) Y_Mo_beginBlock k_Mo_230 0 rfl rfl rfl rfl rfl (Rok.lt (by omega)) d_Mo_readProgram_26 ?_
  refine V.iconst (v := nI 1) X d_Mo_readProgram_29 (by decide +kernel) ?_
  refine V.istore_n (lv' := [(0, .ref (b 0)), (1, .int (nI 1))]) X d_Mo_readProgram_30 (by decide) rfl ?_
  refine V.lvs (lv' := [(0, .ref (b 0)), (1, .int (nI 1))]) rfl ?_
  obtain ⟨n, hres⟩ := hres
  exact (go n)  S60 hres
