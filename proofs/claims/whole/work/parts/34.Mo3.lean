/-! ===== Model: running ===== -/
def mo_runOf_go (p1 : Nat) : Nat → Nat → Nat → MS → Nat → MS → Prop
  | 0, _, _, _, _, _ => False
  | n + 1, _, x2N, S, v, S' => x2N < 11 ∧ (((r_blockOf S) x2N) < 2147483648 ∧ (p1 < 2147483648 ∧ ((((r_blockOf S) x2N) = p1 ∧ (v = x2N ∧ S' = S)) ∨ (¬ ((r_blockOf S) x2N) = p1 ∧ (x2N < 11 ∧ (∃ t6, ((r_outer S) x2N) = some t6 ∧ (mo_runOf_go p1 n 0 t6 S v S')))))))
def mo_runOf (p1 : Nat) (S : MS) (v : Nat) (S' : MS) : Prop := ∃ t7, (r_frame S) = some t7 ∧ (∃ n, mo_runOf_go p1 n 0 t7 S v S')
set_option maxHeartbeats 4000000 in
set_option maxRecDepth 100000 in
theorem c_Mo_runOf {l : Launch} {z : Zt} {b : Nat → Nat} {S : MS} {p1 : Nat} {v : Nat} {S' : MS} (h : Nat) (hres : mo_runOf p1 S v S') : XC l (Gz z) (h + 1) y_Mo_runOf b_Mo_runOf 3 (some .int) [.ref (b 0), .int (nI p1)] (mw z b S) (.inl (some (.int (nI v)))) (mw z b S') := by
  rw [mo_runOf] at hres
  refine XC.ofV (by decide +kernel) rfl ?_
  intro p e s m below meth c X hnm
  have go : ∀ n : Nat, (∀ (x2N : Nat) (S : MS), mo_runOf_go p1 n 0 x2N S v S' → V p l e (Rm (h + 1)) s m ([.ref (b 0), .int (nI p1)] : List Value).toArray below meth c (Gz z) 3 0 0 (XE below (Gz z) (.inl (some (.int (nI v)))) (mw z b S') ([.ref (b 0), .int (nI p1)] : List Value).toArray s) (mw z b S) 5 [(0, .ref (b 0)), (1, .int (nI p1)), (2, .int (nI x2N))] []) := by
    intro n
    induction n with
    | zero =>
      skip
      · intro x2N S hres
        exact absurd hres (by simp only [mo_runOf_go, not_false_eq_true])
    | succ n ih =>
      skip
      · intro x2N S hres
        rw [mo_runOf_go] at hres
        refine V.aload_n X d_Mo_runOf_5 rfl ?_
        refine g_Mo_blockOf X k_Mo_96 d_Mo_runOf_6 ?_
        refine V.iload_n X d_Mo_runOf_9 rfl ?_
        obtain ⟨g1, hres⟩ := hres
        refine l_Mo_blockOf (x := ((r_blockOf S) x2N)) X g1 (congrFun rfl _) d_Mo_runOf_10 ?_
        refine V.iload_n X d_Mo_runOf_11 rfl ?_
        obtain ⟨g3, hres⟩ := hres
        obtain ⟨g4, hres⟩ := hres
        refine V.cmpN_eq (tgt := 25) X d_Mo_runOf_12 (by decide) (by omega) (by omega) (fun h12_2 => ?_) (fun h12_2 => ?_)
        · replace hres := or_t hres h12_2
          refine V.iload_n X d_Mo_runOf_25 rfl ?_
          obtain ⟨rfl, rfl⟩ := hres
          exact V.iret X d_Mo_runOf_26 rfl rfl
        · replace hres := or_f hres h12_2
          refine V.aload_n X d_Mo_runOf_15 rfl ?_
          refine g_Mo_outer X k_Mo_99 d_Mo_runOf_16 ?_
          refine V.iload_n X d_Mo_runOf_19 rfl ?_
          obtain ⟨g5, hres⟩ := hres
          refine l_Mo_outer (x := ((r_outer S) x2N)) X g5 (congrFun rfl _) d_Mo_runOf_20 ?_
          obtain ⟨t6, qt6, hres⟩ := hres
          refine V.top (v' := .int (nI t6)) (by rw [qt6]; rfl) ?_
          refine V.istore_n (lv' := [(0, .ref (b 0)), (1, .int (nI p1)), (2, .int (nI t6))]) X d_Mo_runOf_21 (by decide) rfl ?_
          refine V.goto (tgt := 5) X d_Mo_runOf_22 (by decide) ?_
          refine V.lvs (lv' := [(0, .ref (b 0)), (1, .int (nI p1)), (2, .int (nI t6))]) rfl ?_
          exact ih _ S hres
  refine V.lvs (lv' := [(0, .ref (b 0)), (1, .int (nI p1))]) rfl ?_
  refine V.aload_n X d_Mo_runOf_0 rfl ?_
  refine g_Mo_frame (x := (r_frame S)) X rfl k_Mo_288 d_Mo_runOf_1 ?_
  obtain ⟨t7, qt7, hres⟩ := hres
  refine V.top (v' := .int (nI t7)) (by rw [qt7]; rfl) ?_
  refine V.istore_n (lv' := [(0, .ref (b 0)), (1, .int (nI p1)), (2, .int (nI t7))]) X d_Mo_runOf_4 (by decide) rfl ?_
  refine V.lvs (lv' := [(0, .ref (b 0)), (1, .int (nI p1)), (2, .int (nI t7))]) rfl ?_
  obtain ⟨n, hres⟩ := hres
  exact (go n) _ S hres
def mo_slot_go (p1 : Nat) : Nat → Nat → Nat → Nat → MS → Nat → MS → Prop
  | 0, _, _, _, _, _, _ => False
  | n + 1, _, x2N, x3N, S, v, S' => x3N < 2147483648 ∧ (p1 < 2147483648 ∧ ((p1 ≤ x3N ∧ (v = x2N ∧ S' = S)) ∨ (¬ p1 ≤ x3N ∧ (x3N < 18 ∧ (((r_pSort S) x3N) < 2147483648 ∧ ((((r_pSort S) x3N) = 3 ∧ (mo_slot_go p1 n 0 x2N (x3N + 1) S v S')) ∨ (¬ ((r_pSort S) x3N) = 3 ∧ (mo_slot_go p1 n 0 (x2N + 1) (x3N + 1) S v S'))))))))
def mo_slot (p1 : Nat) (S : MS) (v : Nat) (S' : MS) : Prop := ∃ n, mo_slot_go p1 n 0 0 0 S v S'
set_option maxHeartbeats 4000000 in
set_option maxRecDepth 100000 in
theorem c_Mo_slot {l : Launch} {z : Zt} {b : Nat → Nat} {S : MS} {p1 : Nat} {v : Nat} {S' : MS} (h : Nat) (hres : mo_slot p1 S v S') : XC l (Gz z) (h + 1) y_Mo_slot b_Mo_slot 4 (some .int) [.ref (b 0), .int (nI p1)] (mw z b S) (.inl (some (.int (nI v)))) (mw z b S') := by
  rw [mo_slot] at hres
  refine XC.ofV (by decide +kernel) rfl ?_
  intro p e s m below meth c X hnm
  have go : ∀ n : Nat, (∀ (x2N : Nat) (x3N : Nat) (S : MS), mo_slot_go p1 n 0 x2N x3N S v S' → V p l e (Rm (h + 1)) s m ([.ref (b 0), .int (nI p1)] : List Value).toArray below meth c (Gz z) 4 0 0 (XE below (Gz z) (.inl (some (.int (nI v)))) (mw z b S') ([.ref (b 0), .int (nI p1)] : List Value).toArray s) (mw z b S) 4 [(0, .ref (b 0)), (1, .int (nI p1)), (2, .int (nI x2N)), (3, .int (nI x3N))] []) := by
    intro n
    induction n with
    | zero =>
      skip
      · intro x2N x3N S hres
        exact absurd hres (by simp only [mo_slot_go, not_false_eq_true])
    | succ n ih =>
      skip
      · intro x2N x3N S hres
        rw [mo_slot_go] at hres
        refine V.iload_n X d_Mo_slot_4 rfl ?_
        refine V.iload_n X d_Mo_slot_5 rfl ?_
        obtain ⟨g2, hres⟩ := hres
        obtain ⟨g3, hres⟩ := hres
        refine V.cmpN_ge (tgt := 28) X d_Mo_slot_6 (by decide) (by omega) (by omega) (fun h6_1 => ?_) (fun h6_1 => ?_)
        · replace hres := or_t hres h6_1
          refine V.iload_n X d_Mo_slot_28 rfl ?_
          obtain ⟨rfl, rfl⟩ := hres
          exact V.iret X d_Mo_slot_29 rfl rfl
        · replace hres := or_f hres (Nat.not_le.mpr h6_1)
          refine V.aload_n X d_Mo_slot_9 rfl ?_
          refine g_Mo_pSort X k_Mo_69 d_Mo_slot_10 ?_
          refine V.iload_n X d_Mo_slot_13 rfl ?_
          obtain ⟨g4, hres⟩ := hres
          refine l_Mo_pSort (x := ((r_pSort S) x3N)) X g4 (congrFun rfl _) d_Mo_slot_14 ?_
          refine V.iconst (v := nI 3) X d_Mo_slot_15 (by decide +kernel) ?_
          obtain ⟨g6, hres⟩ := hres
          refine V.cmpN_eq (tgt := 22) X d_Mo_slot_16 (by decide) (by omega) (by omega) (fun h16_5 => ?_) (fun h16_5 => ?_)
          · replace hres := or_t hres h16_5
            refine V.iinc (lv' := [(0, .ref (b 0)), (1, .int (nI p1)), (2, .int (nI x2N)), (3, .int (nI (x3N + 1)))]) X d_Mo_slot_22 rfl (show _ + nI 1 = _ from nI_add _ 1) (by decide) rfl ?_
            refine V.goto (tgt := 4) X d_Mo_slot_25 (by decide) ?_
            refine V.lvs (lv' := [(0, .ref (b 0)), (1, .int (nI p1)), (2, .int (nI x2N)), (3, .int (nI (x3N + 1)))]) rfl ?_
            exact ih _ _ S hres
          · replace hres := or_f hres h16_5
            refine V.iinc (lv' := [(0, .ref (b 0)), (1, .int (nI p1)), (2, .int (nI (x2N + 1))), (3, .int (nI x3N))]) X d_Mo_slot_19 rfl (show _ + nI 1 = _ from nI_add _ 1) (by decide) rfl ?_
            refine V.iinc (lv' := [(0, .ref (b 0)), (1, .int (nI p1)), (2, .int (nI (x2N + 1))), (3, .int (nI (x3N + 1)))]) X d_Mo_slot_22 rfl (show _ + nI 1 = _ from nI_add _ 1) (by decide) rfl ?_
            refine V.goto (tgt := 4) X d_Mo_slot_25 (by decide) ?_
            refine V.lvs (lv' := [(0, .ref (b 0)), (1, .int (nI p1)), (2, .int (nI (x2N + 1))), (3, .int (nI (x3N + 1)))]) rfl ?_
            exact ih _ _ S hres
  refine V.lvs (lv' := [(0, .ref (b 0)), (1, .int (nI p1))]) rfl ?_
  refine V.iconst (v := nI 0) X d_Mo_slot_0 (by decide +kernel) ?_
  refine V.istore_n (lv' := [(0, .ref (b 0)), (1, .int (nI p1)), (2, .int (nI 0))]) X d_Mo_slot_1 (by decide) rfl ?_
  refine V.iconst (v := nI 0) X d_Mo_slot_2 (by decide +kernel) ?_
  refine V.istore_n (lv' := [(0, .ref (b 0)), (1, .int (nI p1)), (2, .int (nI 0)), (3, .int (nI 0))]) X d_Mo_slot_3 (by decide) rfl ?_
  refine V.lvs (lv' := [(0, .ref (b 0)), (1, .int (nI p1)), (2, .int (nI 0)), (3, .int (nI 0))]) rfl ?_
  obtain ⟨n, hres⟩ := hres
  exact (go n) _ _ S hres
def mo_place (p1 : Nat) (S : MS) (v : Nat) (S' : MS) : Prop := p1 < 18 ∧ (∃ v2 S2, mo_runOf ((r_pHome S) p1) S v2 S2 ∧ (∃ v3 S3, mo_slot p1 S2 v3 S3 ∧ (p1 < 18 ∧ (((r_pSort S3) p1) < 2147483648 ∧ ((((r_pSort S3) p1) = 2 ∧ (((12 * v2) + v3) < 132 ∧ (v = ((r_stands S3) ((12 * v2) + v3)) ∧ S' = S3))) ∨ (¬ ((r_pSort S3) p1) = 2 ∧ (v = ((12 * v2) + v3) ∧ S' = S3)))))))
set_option maxHeartbeats 4000000 in
set_option maxRecDepth 100000 in
theorem c_Mo_place {l : Launch} {z : Zt} {b : Nat → Nat} {S : MS} {p1 : Nat} {v : Nat} {S' : MS} (h : Nat) (hres : mo_place p1 S v S') : XC l (Gz z) (h + 2) y_Mo_place b_Mo_place 3 (some .int) [.ref (b 0), .int (nI p1)] (mw z b S) (.inl (some (.int (nI v)))) (mw z b S') := by
  rw [mo_place] at hres
  refine XC.ofV (by decide +kernel) rfl ?_
  intro p e s m below meth c X hnm
  refine V.lvs (lv' := [(0, .ref (b 0)), (1, .int (nI p1))]) rfl ?_
  refine V.bipush (v := nI 12) X d_Mo_place_0 (by decide +kernel) ?_
  refine V.aload_n X d_Mo_place_2 rfl ?_
  refine V.aload_n X d_Mo_place_3 rfl ?_
  refine g_Mo_pHome X k_Mo_72 d_Mo_place_4 ?_
  refine V.iload_n X d_Mo_place_7 rfl ?_
  obtain ⟨g1, hres⟩ := hres
  refine l_Mo_pHome (x := ((r_pHome S) p1)) X g1 (congrFun rfl _) d_Mo_place_8 ?_
  obtain ⟨v2, S2, x2, hres⟩ := hres
  refine V.callV1 X (c_Mo_runOf (h + 0) x2) Y_Mo_runOf k_Mo_291 0 rfl rfl rfl rfl rfl (Rok.lt (by omega)) d_Mo_place_9 ?_
  refine V.imul X d_Mo_place_12 (pk_mul _ _) ?_
  refine V.aload_n X d_Mo_place_13 rfl ?_
  refine V.iload_n X d_Mo_place_14 rfl ?_
  obtain ⟨v3, S3, x3, hres⟩ := hres
  refine V.callV1 X (c_Mo_slot (h + 0) x3) Y_Mo_slot k_Mo_294 0 rfl rfl rfl rfl rfl (Rok.lt (by omega)) d_Mo_place_15 ?_
  refine V.iadd X d_Mo_place_18 (nI_add _ _) ?_
  refine V.istore_n (lv' := [(0, .ref (b 0)), (1, .int (nI p1)), (2, .int (nI ((12 * v2) + v3)))]) X d_Mo_place_19 (by decide) rfl ?_
  refine V.aload_n X d_Mo_place_20 rfl ?_
  refine g_Mo_pSort X k_Mo_69 d_Mo_place_21 ?_
  refine V.iload_n X d_Mo_place_24 rfl ?_
  obtain ⟨g4, hres⟩ := hres
  refine l_Mo_pSort (x := ((r_pSort S3) p1)) X g4 (congrFun rfl _) d_Mo_place_25 ?_
  refine V.iconst (v := nI 2) X d_Mo_place_26 (by decide +kernel) ?_
  obtain ⟨g6, hres⟩ := hres
  refine V.cmpN_ne (tgt := 39) X d_Mo_place_27 (by decide) (by omega) (by omega) (fun h27_5 => ?_) (fun h27_5 => ?_)
  · replace hres := or_f hres h27_5
    refine V.iload_n X d_Mo_place_39 rfl ?_
    obtain ⟨rfl, rfl⟩ := hres
    exact V.iret X d_Mo_place_40 rfl rfl
  · replace hres := or_t hres h27_5
    refine V.aload_n X d_Mo_place_30 rfl ?_
    refine g_Mo_stands X k_Mo_93 d_Mo_place_31 ?_
    refine V.iload_n X d_Mo_place_34 rfl ?_
    obtain ⟨g7, hres⟩ := hres
    refine l_Mo_stands (x := ((r_stands S3) ((12 * v2) + v3))) X g7 (congrFun rfl _) d_Mo_place_35 ?_
    refine V.goto (tgt := 40) X d_Mo_place_36 (by decide) ?_
    obtain ⟨rfl, rfl⟩ := hres
    exact V.iret X d_Mo_place_40 rfl rfl
def mo_multiply (p1 : Nat) (p2 : Int32) (S : MS) (S' : MS) : Prop := p1 < 10 ∧ (((r_termSign S) p1) < 2147483648 ∧ ((((r_termSign S) p1) = 0 ∧ (p1 < 10 ∧ (p1 < 10 ∧ (p1 < 10 ∧ (p1 < 10 ∧ (S' = (w_term S (upd (r_term S) p1 p2)))))))) ∨ (¬ ((r_termSign S) p1) = 0 ∧ (p1 < 10 ∧ ((((r_termSign S) p1) = 42 ∧ (p1 < 10 ∧ (p1 < 10 ∧ (p1 < 10 ∧ (p1 < 10 ∧ (S' = (w_term S (upd (r_term S) p1 (((r_term S) p1) * p2))))))))) ∨ (¬ ((r_termSign S) p1) = 42 ∧ (p1 < 10 ∧ ((((r_termSign S) p1) = 47 ∧ ((p2 = 0 ∧ (S' = (w_failure S 2))) ∨ (¬ p2 = 0 ∧ (p1 < 10 ∧ (p1 < 10 ∧ (p1 < 10 ∧ (S' = (w_term S (upd (r_term S) p1 (((r_term S) p1) / p2)))))))))) ∨ (¬ ((r_termSign S) p1) = 47 ∧ (p1 < 10 ∧ ((((r_termSign S) p1) = 37 ∧ ((p2 = 0 ∧ (S' = (w_failure S 2))) ∨ (¬ p2 = 0 ∧ (p1 < 10 ∧ (p1 < 10 ∧ (p1 < 10 ∧ (S' = (w_term S (upd (r_term S) p1 (((r_term S) p1) - ((r_term S) p1) / p2 * p2)))))))))) ∨ (¬ ((r_termSign S) p1) = 37 ∧ (S' = S)))))))))))))
set_option maxHeartbeats 4000000 in
set_option maxRecDepth 100000 in
theorem c_Mo_multiply {l : Launch} {z : Zt} {b : Nat → Nat} {S : MS} {p1 : Nat} {p2 : Int32} {S' : MS} (h : Nat) (hres : mo_multiply p1 p2 S S') : XC l (Gz z) (h + 1) y_Mo_multiply b_Mo_multiply 3 none [.ref (b 0), .int (nI p1), .int p2] (mw z b S) (.inl none) (mw z b S') := by
  rw [mo_multiply] at hres
  refine XC.ofV (by decide +kernel) rfl ?_
  intro p e s m below meth c X hnm
  refine V.lvs (lv' := [(0, .ref (b 0)), (1, .int (nI p1)), (2, .int p2)]) rfl ?_
  refine V.aload_n X d_Mo_multiply_0 rfl ?_
  refine g_Mo_termSign X k_Mo_126 d_Mo_multiply_1 ?_
  refine V.iload_n X d_Mo_multiply_4 rfl ?_
  obtain ⟨g1, hres⟩ := hres
  refine l_Mo_termSign (x := ((r_termSign S) p1)) X g1 (congrFun rfl _) d_Mo_multiply_5 ?_
  obtain ⟨g3, hres⟩ := hres
  refine V.ifN_ne (tgt := 16) X d_Mo_multiply_6 (by decide) (by omega) (fun h6_2 => ?_) (fun h6_2 => ?_)
  · replace hres := or_f hres h6_2
    refine V.aload_n X d_Mo_multiply_16 rfl ?_
    refine g_Mo_termSign X k_Mo_126 d_Mo_multiply_17 ?_
    refine V.iload_n X d_Mo_multiply_20 rfl ?_
    obtain ⟨g4, hres⟩ := hres
    refine l_Mo_termSign (x := ((r_termSign S) p1)) X g4 (congrFun rfl _) d_Mo_multiply_21 ?_
    refine V.bipush (v := nI 42) X d_Mo_multiply_22 (by decide +kernel) ?_
    refine V.cmpN_ne (tgt := 37) X d_Mo_multiply_24 (by decide) (by omega) (by omega) (fun h24_5 => ?_) (fun h24_5 => ?_)
    · replace hres := or_f hres h24_5
      refine V.aload_n X d_Mo_multiply_37 rfl ?_
      refine g_Mo_termSign X k_Mo_126 d_Mo_multiply_38 ?_
      refine V.iload_n X d_Mo_multiply_41 rfl ?_
      obtain ⟨g6, hres⟩ := hres
      refine l_Mo_termSign (x := ((r_termSign S) p1)) X g6 (congrFun rfl _) d_Mo_multiply_42 ?_
      refine V.bipush (v := nI 47) X d_Mo_multiply_43 (by decide +kernel) ?_
      refine V.cmpN_eq (tgt := 60) X d_Mo_multiply_45 (by decide) (by omega) (by omega) (fun h45_7 => ?_) (fun h45_7 => ?_)
      · replace hres := or_t hres h45_7
        refine V.iload_n X d_Mo_multiply_60 rfl ?_
        refine V.if_ne (tgt := 72) X d_Mo_multiply_61 (by decide) (fun h61_8 => ?_) (fun h61_8 => ?_)
        · replace hres := or_f hres h61_8
          refine V.aload_n X d_Mo_multiply_72 rfl ?_
          refine g_Mo_term X k_Mo_120 d_Mo_multiply_73 ?_
          refine V.iload_n X d_Mo_multiply_76 rfl ?_
          refine V.aload_n X d_Mo_multiply_77 rfl ?_
          refine g_Mo_termSign X k_Mo_126 d_Mo_multiply_78 ?_
          refine V.iload_n X d_Mo_multiply_81 rfl ?_
          obtain ⟨g9, hres⟩ := hres
          refine l_Mo_termSign (x := ((r_termSign S) p1)) X g9 (congrFun rfl _) d_Mo_multiply_82 ?_
          refine V.bipush (v := nI 47) X d_Mo_multiply_83 (by decide +kernel) ?_
          refine V.cmpN_ne (tgt := 99) X d_Mo_multiply_85 (by decide) (by omega) (by omega) (fun h => absurd h (by omega)) (fun _ => ?_)
          refine V.aload_n X d_Mo_multiply_88 rfl ?_
          refine g_Mo_term X k_Mo_120 d_Mo_multiply_89 ?_
          refine V.iload_n X d_Mo_multiply_92 rfl ?_
          obtain ⟨g11, hres⟩ := hres
          refine l_Mo_term (x := ((r_term S) p1)) X g11 (congrFun rfl _) d_Mo_multiply_93 ?_
          refine V.iload_n X d_Mo_multiply_94 rfl ?_
          refine V.idiv X d_Mo_multiply_95 (by assumption) rfl ?_
          refine V.goto (tgt := 107) X d_Mo_multiply_96 (by decide) ?_
          obtain ⟨g12, hres⟩ := hres
          refine s_Mo_term (g := (r_term S)) X g12 rfl d_Mo_multiply_107 ?_
          subst hres
          exact V.vret X d_Mo_multiply_108 rfl rfl
        · replace hres := or_t hres h61_8
          refine V.aload_n X d_Mo_multiply_64 rfl ?_
          refine V.iconst (v := nI 2) X d_Mo_multiply_65 (by decide +kernel) ?_
          refine p_Mo_failure X k_Mo_297 d_Mo_multiply_66 ?_
          refine V.goto (tgt := 108) X d_Mo_multiply_69 (by decide) ?_
          subst hres
          exact V.vret X d_Mo_multiply_108 rfl rfl
      · replace hres := or_f hres h45_7
        refine V.aload_n X d_Mo_multiply_48 rfl ?_
        refine g_Mo_termSign X k_Mo_126 d_Mo_multiply_49 ?_
        refine V.iload_n X d_Mo_multiply_52 rfl ?_
        obtain ⟨g13, hres⟩ := hres
        refine l_Mo_termSign (x := ((r_termSign S) p1)) X g13 (congrFun rfl _) d_Mo_multiply_53 ?_
        refine V.bipush (v := nI 37) X d_Mo_multiply_54 (by decide +kernel) ?_
        refine V.cmpN_eq (tgt := 60) X d_Mo_multiply_56 (by decide) (by omega) (by omega) (fun h56_14 => ?_) (fun h56_14 => ?_)
        · replace hres := or_t hres h56_14
          refine V.iload_n X d_Mo_multiply_60 rfl ?_
          refine V.if_ne (tgt := 72) X d_Mo_multiply_61 (by decide) (fun h61_15 => ?_) (fun h61_15 => ?_)
          · replace hres := or_f hres h61_15
            refine V.aload_n X d_Mo_multiply_72 rfl ?_
            refine g_Mo_term X k_Mo_120 d_Mo_multiply_73 ?_
            refine V.iload_n X d_Mo_multiply_76 rfl ?_
            refine V.aload_n X d_Mo_multiply_77 rfl ?_
            refine g_Mo_termSign X k_Mo_126 d_Mo_multiply_78 ?_
            refine V.iload_n X d_Mo_multiply_81 rfl ?_
            obtain ⟨g16, hres⟩ := hres
            refine l_Mo_termSign (x := ((r_termSign S) p1)) X g16 (congrFun rfl _) d_Mo_multiply_82 ?_
            refine V.bipush (v := nI 47) X d_Mo_multiply_83 (by decide +kernel) ?_
            refine V.cmpN_ne (tgt := 99) X d_Mo_multiply_85 (by decide) (by omega) (by omega) (fun _ => ?_) (fun h => absurd h (by omega))
            refine V.aload_n X d_Mo_multiply_99 rfl ?_
            refine g_Mo_term X k_Mo_120 d_Mo_multiply_100 ?_
            refine V.iload_n X d_Mo_multiply_103 rfl ?_
            obtain ⟨g18, hres⟩ := hres
            refine l_Mo_term (x := ((r_term S) p1)) X g18 (congrFun rfl _) d_Mo_multiply_104 ?_
            refine V.iload_n X d_Mo_multiply_105 rfl ?_
            refine V.irem X d_Mo_multiply_106 (by assumption) rfl ?_
            obtain ⟨g19, hres⟩ := hres
            refine s_Mo_term (g := (r_term S)) X g19 rfl d_Mo_multiply_107 ?_
            subst hres
            exact V.vret X d_Mo_multiply_108 rfl rfl
          · replace hres := or_t hres h61_15
            refine V.aload_n X d_Mo_multiply_64 rfl ?_
            refine V.iconst (v := nI 2) X d_Mo_multiply_65 (by decide +kernel) ?_
            refine p_Mo_failure X k_Mo_297 d_Mo_multiply_66 ?_
            refine V.goto (tgt := 108) X d_Mo_multiply_69 (by decide) ?_
            subst hres
            exact V.vret X d_Mo_multiply_108 rfl rfl
        · replace hres := or_f hres h56_14
          subst hres
          exact V.vret X d_Mo_multiply_59 rfl rfl
    · replace hres := or_t hres h24_5
      refine V.aload_n X d_Mo_multiply_27 rfl ?_
      refine g_Mo_term X k_Mo_120 d_Mo_multiply_28 ?_
      refine V.iload_n X d_Mo_multiply_31 rfl ?_
      refine V.dup2 X d_Mo_multiply_32 rfl rfl ?_
      obtain ⟨g20, hres⟩ := hres
      refine l_Mo_term (x := ((r_term S) p1)) X g20 (congrFun rfl _) d_Mo_multiply_33 ?_
      refine V.iload_n X d_Mo_multiply_34 rfl ?_
      refine V.imul X d_Mo_multiply_35 rfl ?_
      obtain ⟨g21, hres⟩ := hres
      refine s_Mo_term (g := (r_term S)) X g21 rfl d_Mo_multiply_36 ?_
      refine V.aload_n X d_Mo_multiply_37 rfl ?_
      refine g_Mo_termSign X k_Mo_126 d_Mo_multiply_38 ?_
      refine V.iload_n X d_Mo_multiply_41 rfl ?_
      obtain ⟨g22, hres⟩ := hres
      refine l_Mo_termSign (x := ((r_termSign S) p1)) X g22 (congrFun (rw_termSign_term _ _) _) d_Mo_multiply_42 ?_
      refine V.bipush (v := nI 47) X d_Mo_multiply_43 (by decide +kernel) ?_
      refine V.cmpN_eq (tgt := 60) X d_Mo_multiply_45 (by decide) (by omega) (by omega) (fun h => absurd h (by omega)) (fun _ => ?_)
      refine V.aload_n X d_Mo_multiply_48 rfl ?_
      refine g_Mo_termSign X k_Mo_126 d_Mo_multiply_49 ?_
      refine V.iload_n X d_Mo_multiply_52 rfl ?_
      obtain ⟨g24, hres⟩ := hres
      refine l_Mo_termSign (x := ((r_termSign S) p1)) X g24 (congrFun (rw_termSign_term _ _) _) d_Mo_multiply_53 ?_
      refine V.bipush (v := nI 37) X d_Mo_multiply_54 (by decide +kernel) ?_
      refine V.cmpN_eq (tgt := 60) X d_Mo_multiply_56 (by decide) (by omega) (by omega) (fun h => absurd h (by omega)) (fun _ => ?_)
      subst hres
      exact V.vret X d_Mo_multiply_59 rfl rfl
  · replace hres := or_t hres h6_2
    refine V.aload_n X d_Mo_multiply_9 rfl ?_
    refine g_Mo_term X k_Mo_120 d_Mo_multiply_10 ?_
    refine V.iload_n X d_Mo_multiply_13 rfl ?_
    refine V.iload_n X d_Mo_multiply_14 rfl ?_
    obtain ⟨g26, hres⟩ := hres
    refine s_Mo_term (g := (r_term S)) X g26 rfl d_Mo_multiply_15 ?_
    refine V.aload_n X d_Mo_multiply_16 rfl ?_
    refine g_Mo_termSign X k_Mo_126 d_Mo_multiply_17 ?_
    refine V.iload_n X d_Mo_multiply_20 rfl ?_
    obtain ⟨g27, hres⟩ := hres
    refine l_Mo_termSign (x := ((r_termSign S) p1)) X g27 (congrFun (rw_termSign_term _ _) _) d_Mo_multiply_21 ?_
    refine V.bipush (v := nI 42) X d_Mo_multiply_22 (by decide +kernel) ?_
    refine V.cmpN_ne (tgt := 37) X d_Mo_multiply_24 (by decide) (by omega) (by omega) (fun _ => ?_) (fun h => absurd h (by omega))
    refine V.aload_n X d_Mo_multiply_37 rfl ?_
    refine g_Mo_termSign X k_Mo_126 d_Mo_multiply_38 ?_
    refine V.iload_n X d_Mo_multiply_41 rfl ?_
    obtain ⟨g29, hres⟩ := hres
    refine l_Mo_termSign (x := ((r_termSign S) p1)) X g29 (congrFun (rw_termSign_term _ _) _) d_Mo_multiply_42 ?_
    refine V.bipush (v := nI 47) X d_Mo_multiply_43 (by decide +kernel) ?_
    refine V.cmpN_eq (tgt := 60) X d_Mo_multiply_45 (by decide) (by omega) (by omega) (fun h => absurd h (by omega)) (fun _ => ?_)
    refine V.aload_n X d_Mo_multiply_48 rfl ?_
    refine g_Mo_termSign X k_Mo_126 d_Mo_multiply_49 ?_
    refine V.iload_n X d_Mo_multiply_52 rfl ?_
    obtain ⟨g31, hres⟩ := hres
    refine l_Mo_termSign (x := ((r_termSign S) p1)) X g31 (congrFun (rw_termSign_term _ _) _) d_Mo_multiply_53 ?_
    refine V.bipush (v := nI 37) X d_Mo_multiply_54 (by decide +kernel) ?_
    refine V.cmpN_eq (tgt := 60) X d_Mo_multiply_56 (by decide) (by omega) (by omega) (fun h => absurd h (by omega)) (fun _ => ?_)
    subst hres
    exact V.vret X d_Mo_multiply_59 rfl rfl
def mo_add (p1 : Nat) (S : MS) (S' : MS) : Prop := p1 < 10 ∧ (((r_sumSign S) p1) < 2147483648 ∧ ((((r_sumSign S) p1) = 45 ∧ (p1 < 10 ∧ (p1 < 10 ∧ (p1 < 10 ∧ (S' = (w_sum S (upd (r_sum S) p1 (((r_sum S) p1) - ((r_term S) p1))))))))) ∨ (¬ ((r_sumSign S) p1) = 45 ∧ (p1 < 10 ∧ (p1 < 10 ∧ (p1 < 10 ∧ (S' = (w_sum S (upd (r_sum S) p1 (((r_sum S) p1) + ((r_term S) p1)))))))))))
set_option maxHeartbeats 4000000 in
set_option maxRecDepth 100000 in
theorem c_Mo_add {l : Launch} {z : Zt} {b : Nat → Nat} {S : MS} {p1 : Nat} {S' : MS} (h : Nat) (hres : mo_add p1 S S') : XC l (Gz z) (h + 1) y_Mo_add b_Mo_add 2 none [.ref (b 0), .int (nI p1)] (mw z b S) (.inl none) (mw z b S') := by
  rw [mo_add] at hres
  refine XC.ofV (by decide +kernel) rfl ?_
  intro p e s m below meth c X hnm
  refine V.lvs (lv' := [(0, .ref (b 0)), (1, .int (nI p1))]) rfl ?_
  refine V.aload_n X d_Mo_add_0 rfl ?_
  refine g_Mo_sum X k_Mo_117 d_Mo_add_1 ?_
  refine V.iload_n X d_Mo_add_4 rfl ?_
  refine V.aload_n X d_Mo_add_5 rfl ?_
  refine g_Mo_sumSign X k_Mo_123 d_Mo_add_6 ?_
  refine V.iload_n X d_Mo_add_9 rfl ?_
  obtain ⟨g1, hres⟩ := hres
  refine l_Mo_sumSign (x := ((r_sumSign S) p1)) X g1 (congrFun rfl _) d_Mo_add_10 ?_
  refine V.bipush (v := nI 45) X d_Mo_add_11 (by decide +kernel) ?_
  obtain ⟨g3, hres⟩ := hres
  refine V.cmpN_ne (tgt := 32) X d_Mo_add_13 (by decide) (by omega) (by omega) (fun h13_2 => ?_) (fun h13_2 => ?_)
  · replace hres := or_f hres h13_2
    refine V.aload_n X d_Mo_add_32 rfl ?_
    refine g_Mo_sum X k_Mo_117 d_Mo_add_33 ?_
    refine V.iload_n X d_Mo_add_36 rfl ?_
    obtain ⟨g4, hres⟩ := hres
    refine l_Mo_sum (x := ((r_sum S) p1)) X g4 (congrFun rfl _) d_Mo_add_37 ?_
    refine V.aload_n X d_Mo_add_38 rfl ?_
    refine g_Mo_term X k_Mo_120 d_Mo_add_39 ?_
    refine V.iload_n X d_Mo_add_42 rfl ?_
    obtain ⟨g5, hres⟩ := hres
    refine l_Mo_term (x := ((r_term S) p1)) X g5 (congrFun rfl _) d_Mo_add_43 ?_
    refine V.iadd X d_Mo_add_44 rfl ?_
    obtain ⟨g6, hres⟩ := hres
    refine s_Mo_sum (g := (r_sum S)) X g6 rfl d_Mo_add_45 ?_
    subst hres
    exact V.vret X d_Mo_add_46 rfl rfl
  · replace hres := or_t hres h13_2
    refine V.aload_n X d_Mo_add_16 rfl ?_
    refine g_Mo_sum X k_Mo_117 d_Mo_add_17 ?_
    refine V.iload_n X d_Mo_add_20 rfl ?_
    obtain ⟨g7, hres⟩ := hres
    refine l_Mo_sum (x := ((r_sum S) p1)) X g7 (congrFun rfl _) d_Mo_add_21 ?_
    refine V.aload_n X d_Mo_add_22 rfl ?_
    refine g_Mo_term X k_Mo_120 d_Mo_add_23 ?_
    refine V.iload_n X d_Mo_add_26 rfl ?_
    obtain ⟨g8, hres⟩ := hres
    refine l_Mo_term (x := ((r_term S) p1)) X g8 (congrFun rfl _) d_Mo_add_27 ?_
    refine V.isub X d_Mo_add_28 rfl ?_
    refine V.goto (tgt := 45) X d_Mo_add_29 (by decide) ?_
    obtain ⟨g9, hres⟩ := hres
    refine s_Mo_sum (g := (r_sum S)) X g9 rfl d_Mo_add_45 ?_
    subst hres
    exact V.vret X d_Mo_add_46 rfl rfl
def mo_openSum (p1 : Nat) (S : MS) (S' : MS) : Prop := p1 < 10 ∧ ((r_pc S) < 155 ∧ (p1 < 10 ∧ (p1 < 10 ∧ ((r_pc S) < 155 ∧ (((r_pKind S) (r_pc S)) < 2147483648 ∧ ((((r_pKind S) (r_pc S)) = 45 ∧ (S' = (w_pc (w_termSign (w_sumSign (w_sum S (upd (r_sum S) p1 (nI 0))) (va_up (r_sumSign S) p1 ((r_pKind S) (r_pc S)))) (va_up (r_termSign S) p1 0)) ((r_pc S) + 1)))) ∨ (¬ ((r_pKind S) (r_pc S)) = 45 ∧ (S' = (w_termSign (w_sumSign (w_sum S (upd (r_sum S) p1 (nI 0))) (va_up (r_sumSign S) p1 ((r_pKind S) (r_pc S)))) (va_up (r_termSign S) p1 0))))))))))
set_option maxHeartbeats 4000000 in
set_option maxRecDepth 100000 in
theorem c_Mo_openSum {l : Launch} {z : Zt} {b : Nat → Nat} {S : MS} {p1 : Nat} {S' : MS} (h : Nat) (hres : mo_openSum p1 S S') : XC l (Gz z) (h + 1) y_Mo_openSum b_Mo_openSum 2 none [.ref (b 0), .int (nI p1)] (mw z b S) (.inl none) (mw z b S') := by
  rw [mo_openSum] at hres
  refine XC.ofV (by decide +kernel) rfl ?_
  intro p e s m below meth c X hnm
  refine V.lvs (lv' := [(0, .ref (b 0)), (1, .int (nI p1))]) rfl ?_
  refine V.aload_n X d_Mo_openSum_0 rfl ?_
  refine g_Mo_sum X k_Mo_117 d_Mo_openSum_1 ?_
  refine V.iload_n X d_Mo_openSum_4 rfl ?_
  refine V.iconst (v := nI 0) X d_Mo_openSum_5 (by decide +kernel) ?_
  obtain ⟨g1, hres⟩ := hres
  refine V.top (v' := .int (nI 0)) rfl ?_
  refine s_Mo_sum (g := (r_sum S)) X g1 rfl d_Mo_openSum_6 ?_
  refine V.aload_n X d_Mo_openSum_7 rfl ?_
  refine g_Mo_sumSign X k_Mo_123 d_Mo_openSum_8 ?_
  refine V.iload_n X d_Mo_openSum_11 rfl ?_
  refine V.aload_n X d_Mo_openSum_12 rfl ?_
  refine g_Mo_pKind X k_Mo_32 d_Mo_openSum_13 ?_
  refine V.aload_n X d_Mo_openSum_16 rfl ?_
  refine g_Mo_pc (x := (r_pc S)) X (rw_pc_sum _ _) k_Mo_300 d_Mo_openSum_17 ?_
  obtain ⟨g2, hres⟩ := hres
  refine l_Mo_pKind (x := ((r_pKind S) (r_pc S))) X g2 (congrFun (rw_pKind_sum _ _) _) d_Mo_openSum_20 ?_
  obtain ⟨g3, hres⟩ := hres
  refine s_Mo_sumSign (g := (r_sumSign S)) X g3 (rw_sumSign_sum _ _) d_Mo_openSum_21 ?_
  refine V.aload_n X d_Mo_openSum_22 rfl ?_
  refine g_Mo_termSign X k_Mo_126 d_Mo_openSum_23 ?_
  refine V.iload_n X d_Mo_openSum_26 rfl ?_
  refine V.iconst (v := nI 0) X d_Mo_openSum_27 (by decide +kernel) ?_
  obtain ⟨g4, hres⟩ := hres
  refine s_Mo_termSign (g := (r_termSign S)) X g4 (Eq.trans (rw_termSign_sumSign _ _) (rw_termSign_sum _ _)) d_Mo_openSum_28 ?_
  refine V.aload_n X d_Mo_openSum_29 rfl ?_
  refine g_Mo_pKind X k_Mo_32 d_Mo_openSum_30 ?_
  refine V.aload_n X d_Mo_openSum_33 rfl ?_
  refine g_Mo_pc (x := (r_pc S)) X (Eq.trans (rw_pc_termSign _ _) (Eq.trans (rw_pc_sumSign _ _) (rw_pc_sum _ _))) k_Mo_300 d_Mo_openSum_34 ?_
  obtain ⟨g5, hres⟩ := hres
  refine l_Mo_pKind (x := ((r_pKind S) (r_pc S))) X g5 (congrFun (Eq.trans (rw_pKind_termSign _ _) (Eq.trans (rw_pKind_sumSign _ _) (rw_pKind_sum _ _))) _) d_Mo_openSum_37 ?_
  refine V.bipush (v := nI 45) X d_Mo_openSum_38 (by decide +kernel) ?_
  obtain ⟨g7, hres⟩ := hres
  refine V.cmpN_ne (tgt := 53) X d_Mo_openSum_40 (by decide) (by omega) (by omega) (fun h40_6 => ?_) (fun h40_6 => ?_)
  · replace hres := or_f hres h40_6
    subst hres
    exact V.vret X d_Mo_openSum_53 rfl rfl
  · replace hres := or_t hres h40_6
    refine V.aload_n X d_Mo_openSum_43 rfl ?_
    refine V.dup X d_Mo_openSum_44 rfl ?_
    refine g_Mo_pc (x := (r_pc S)) X (Eq.trans (rw_pc_termSign _ _) (Eq.trans (rw_pc_sumSign _ _) (rw_pc_sum _ _))) k_Mo_300 d_Mo_openSum_45 ?_
    refine V.iconst (v := nI 1) X d_Mo_openSum_48 (by decide +kernel) ?_
    refine V.iadd X d_Mo_openSum_49 (nI_add _ _) ?_
    refine p_Mo_pc X k_Mo_300 d_Mo_openSum_50 ?_
    subst hres
    exact V.vret X d_Mo_openSum_53 rfl rfl
def mo_evaluate_go : Nat → Nat → Nat → MS → Int32 → MS → Prop
  | 0, _, _, _, _, _ => False
  | n + 1, tag, x1N, S, v, S' => match tag with
    | 0 => (r_failure S) < 2147483648 ∧ (((r_failure S) = 0 ∧ ((r_pc S) < 155 ∧ (((r_pKind S) (r_pc S)) < 2147483648 ∧ ((((r_pKind S) (r_pc S)) = 40 ∧ (∃ S16, mo_openSum (x1N + 1) (w_pc S ((r_pc S) + 1)) S16 ∧ (mo_evaluate_go n 0 (x1N + 1) S16 v S'))) ∨ (¬ ((r_pKind S) (r_pc S)) = 40 ∧ ((((r_pKind S) (r_pc S)) = 2 ∧ ((r_pc S) < 155 ∧ (∃ S15, mo_multiply x1N ((r_pWord S) (r_pc S)) S S15 ∧ (mo_evaluate_go n 1 x1N (w_pc S15 ((r_pc S15) + 1)) v S')))) ∨ (¬ ((r_pKind S) (r_pc S)) = 2 ∧ ((r_pc S) < 155 ∧ (∃ v11 S11, mo_place ((r_pMeans S) (r_pc S)) S v11 S11 ∧ (v11 < 132 ∧ (∃ S13, mo_multiply x1N ((r_cell S11) v11) S11 S13 ∧ (mo_evaluate_go n 1 x1N (w_pc S13 ((r_pc S13) + 1)) v S')))))))))))) ∨ (¬ (r_failure S) = 0 ∧ (∃ S4, mo_add x1N S S4 ∧ (x1N < 10 ∧ (v = ((r_sum S4) x1N) ∧ S' = S4)))))
    | 1 => x1N < 2147483648 ∧ ((x1N = 0 ∧ ((r_pc S) < 155 ∧ (((r_pKind S) (r_pc S)) < 2147483648 ∧ (((isOp ((r_pKind S) (r_pc S))) = true ∧ ((((r_pKind S) (r_pc S)) = 43 ∧ (∃ S23, mo_add x1N S S23 ∧ (x1N < 10 ∧ (x1N < 10 ∧ (mo_evaluate_go n 0 x1N (w_pc (w_termSign (w_sumSign S23 (va_up (r_sumSign S23) x1N ((r_pKind S) (r_pc S)))) (va_up (r_termSign S23) x1N 0)) ((r_pc S23) + 1)) v S'))))) ∨ (¬ ((r_pKind S) (r_pc S)) = 43 ∧ ((((r_pKind S) (r_pc S)) = 45 ∧ (∃ S28, mo_add x1N S S28 ∧ (x1N < 10 ∧ (x1N < 10 ∧ (mo_evaluate_go n 0 x1N (w_pc (w_termSign (w_sumSign S28 (va_up (r_sumSign S28) x1N ((r_pKind S) (r_pc S)))) (va_up (r_termSign S28) x1N 0)) ((r_pc S28) + 1)) v S'))))) ∨ (¬ ((r_pKind S) (r_pc S)) = 45 ∧ (x1N < 10 ∧ (mo_evaluate_go n 0 x1N (w_pc (w_termSign S (va_up (r_termSign S) x1N ((r_pKind S) (r_pc S)))) ((r_pc S) + 1)) v S'))))))) ∨ (¬ (isOp ((r_pKind S) (r_pc S))) = true ∧ (∃ S32, mo_add x1N S S32 ∧ (x1N < 10 ∧ (v = ((r_sum S32) x1N) ∧ S' = S32)))))))) ∨ (¬ x1N = 0 ∧ ((r_pc S) < 155 ∧ (((r_pKind S) (r_pc S)) < 2147483648 ∧ ((((r_pKind S) (r_pc S)) = 41 ∧ ((r_failure S) < 2147483648 ∧ (((r_failure S) = 0 ∧ (∃ S61, mo_add x1N S S61 ∧ (1 ≤ x1N ∧ (((x1N - 1) + 1) < 10 ∧ (∃ S64, mo_multiply (x1N - 1) ((r_sum S61) ((x1N - 1) + 1)) (w_pc S61 ((r_pc S61) + 1)) S64 ∧ (mo_evaluate_go n 1 (x1N - 1) S64 v S')))))) ∨ (¬ (r_failure S) = 0 ∧ ((r_pc S) < 155 ∧ (((isOp ((r_pKind S) (r_pc S))) = true ∧ (x1N < 10 ∧ (mo_evaluate_go n 0 x1N (w_pc (w_termSign S (va_up (r_termSign S) x1N ((r_pKind S) (r_pc S)))) ((r_pc S) + 1)) v S'))) ∨ (¬ (isOp ((r_pKind S) (r_pc S))) = true ∧ (∃ S59, mo_add x1N S S59 ∧ (x1N < 10 ∧ (v = ((r_sum S59) x1N) ∧ S' = S59)))))))))) ∨ (¬ ((r_pKind S) (r_pc S)) = 41 ∧ ((r_pc S) < 155 ∧ (((isOp ((r_pKind S) (r_pc S))) = true ∧ ((((r_pKind S) (r_pc S)) = 43 ∧ (∃ S40, mo_add x1N S S40 ∧ (x1N < 10 ∧ (x1N < 10 ∧ (mo_evaluate_go n 0 x1N (w_pc (w_termSign (w_sumSign S40 (va_up (r_sumSign S40) x1N ((r_pKind S) (r_pc S)))) (va_up (r_termSign S40) x1N 0)) ((r_pc S40) + 1)) v S'))))) ∨ (¬ ((r_pKind S) (r_pc S)) = 43 ∧ ((((r_pKind S) (r_pc S)) = 45 ∧ (∃ S45, mo_add x1N S S45 ∧ (x1N < 10 ∧ (x1N < 10 ∧ (mo_evaluate_go n 0 x1N (w_pc (w_termSign (w_sumSign S45 (va_up (r_sumSign S45) x1N ((r_pKind S) (r_pc S)))) (va_up (r_termSign S45) x1N 0)) ((r_pc S45) + 1)) v S'))))) ∨ (¬ ((r_pKind S) (r_pc S)) = 45 ∧ (x1N < 10 ∧ (mo_evaluate_go n 0 x1N (w_pc (w_termSign S (va_up (r_termSign S) x1N ((r_pKind S) (r_pc S)))) ((r_pc S) + 1)) v S'))))))) ∨ (¬ (isOp ((r_pKind S) (r_pc S))) = true ∧ (∃ S49, mo_add x1N S S49 ∧ (x1N < 10 ∧ (v = ((r_sum S49) x1N) ∧ S' = S49))))))))))))
    | _ => False
def mo_evaluate (S : MS) (v : Int32) (S' : MS) : Prop := ∃ S65, mo_openSum 0 S S65 ∧ (∃ n, mo_evaluate_go n 0 0 S65 v S')
set_option maxHeartbeats 4000000 in
set_option maxRecDepth 100000 in
theorem c_Mo_evaluate {l : Launch} {z : Zt} {b : Nat → Nat} {S : MS} {v : Int32} {S' : MS} (h : Nat) (hres : mo_evaluate S v S') : XC l (Gz z) (h + 3) y_Mo_evaluate b_Mo_evaluate 4 (some .int) [.ref (b 0)] (mw z b S) (.inl (some (.int v))) (mw z b S') := by
  rw [mo_evaluate] at hres
  refine XC.ofV (by decide +kernel) rfl ?_
  intro p e s m below meth c X hnm
  have go : ∀ n : Nat, (∀ (x1N : Nat) (S : MS), mo_evaluate_go n 0 x1N S v S' → V p l e (Rm (h + 3)) s m ([.ref (b 0)] : List Value).toArray below meth c (Gz z) 4 0 0 (XE below (Gz z) (.inl (some (.int v))) (mw z b S') ([.ref (b 0)] : List Value).toArray s) (mw z b S) 9 [(0, .ref (b 0)), (1, .int (nI x1N)), (2, .int (nI 1))] []) ∧ (∀ (x1N : Nat) (S : MS), mo_evaluate_go n 1 x1N S v S' → V p l e (Rm (h + 3)) s m ([.ref (b 0)] : List Value).toArray below meth c (Gz z) 4 0 0 (XE below (Gz z) (.inl (some (.int v))) (mw z b S') ([.ref (b 0)] : List Value).toArray s) (mw z b S) 107 [(0, .ref (b 0)), (1, .int (nI x1N))] []) := by
    intro n
    induction n with
    | zero =>
      refine ⟨?_, ?_⟩
      · intro x1N S hres
        exact absurd hres (by simp only [mo_evaluate_go, not_false_eq_true])
      · intro x1N S hres
        exact absurd hres (by simp only [mo_evaluate_go, not_false_eq_true])
    | succ n ih =>
      refine ⟨?_, ?_⟩
      · intro x1N S hres
        rw [mo_evaluate_go] at hres
        try dsimp only at hres
        refine V.iload_n X d_Mo_evaluate_9 rfl ?_
        refine V.ifN_eq (tgt := 243) X d_Mo_evaluate_10 (by decide) (by decide) (fun h => absurd h (by decide)) (fun _ => ?_)
        refine V.aload_n X d_Mo_evaluate_13 rfl ?_
        refine g_Mo_failure (x := (r_failure S)) X rfl k_Mo_297 d_Mo_evaluate_14 ?_
        obtain ⟨g3, hres⟩ := hres
        refine V.ifN_ne (tgt := 243) X d_Mo_evaluate_17 (by decide) (by omega) (fun h17_2 => ?_) (fun h17_2 => ?_)
        · replace hres := or_f hres h17_2
          refine V.aload_n X d_Mo_evaluate_243 rfl ?_
          refine V.iload_n X d_Mo_evaluate_244 rfl ?_
          obtain ⟨S4, x4, hres⟩ := hres
          refine V.callV0 X (c_Mo_add (h + 1) x4) Y_Mo_add k_Mo_312 0 rfl rfl rfl rfl rfl (Rok.lt (by omega)) d_Mo_evaluate_245 ?_
          refine V.aload_n X d_Mo_evaluate_248 rfl ?_
          refine g_Mo_sum X k_Mo_117 d_Mo_evaluate_249 ?_
          refine V.iload_n X d_Mo_evaluate_252 rfl ?_
          obtain ⟨g5, hres⟩ := hres
          refine l_Mo_sum (x := ((r_sum S4) x1N)) X g5 (congrFun rfl _) d_Mo_evaluate_253 ?_
          obtain ⟨rfl, rfl⟩ := hres
          exact V.iret X d_Mo_evaluate_254 rfl rfl
        · replace hres := or_t hres h17_2
          refine V.aload_n X d_Mo_evaluate_20 rfl ?_
          refine g_Mo_pKind X k_Mo_32 d_Mo_evaluate_21 ?_
          refine V.aload_n X d_Mo_evaluate_24 rfl ?_
          refine g_Mo_pc (x := (r_pc S)) X rfl k_Mo_300 d_Mo_evaluate_25 ?_
          obtain ⟨g6, hres⟩ := hres
          refine l_Mo_pKind (x := ((r_pKind S) (r_pc S))) X g6 (congrFun rfl _) d_Mo_evaluate_28 ?_
          refine V.istore_n (lv' := [(0, .ref (b 0)), (1, .int (nI x1N)), (2, .int (nI 1)), (3, .int (nI ((r_pKind S) (r_pc S))))]) X d_Mo_evaluate_29 (by decide) rfl ?_
          refine V.iload_n X d_Mo_evaluate_30 rfl ?_
          refine V.bipush (v := nI 40) X d_Mo_evaluate_31 (by decide +kernel) ?_
          obtain ⟨g8, hres⟩ := hres
          refine V.cmpN_ne (tgt := 57) X d_Mo_evaluate_33 (by decide) (by omega) (by omega) (fun h33_7 => ?_) (fun h33_7 => ?_)
          · replace hres := or_f hres h33_7
            refine V.aload_n X d_Mo_evaluate_57 rfl ?_
            refine V.iload_n X d_Mo_evaluate_58 rfl ?_
            refine V.iload_n X d_Mo_evaluate_59 rfl ?_
            refine V.iconst (v := nI 2) X d_Mo_evaluate_60 (by decide +kernel) ?_
            refine V.cmpN_ne (tgt := 76) X d_Mo_evaluate_61 (by decide) (by omega) (by omega) (fun h61_9 => ?_) (fun h61_9 => ?_)
            · replace hres := or_f hres h61_9
              refine V.aload_n X d_Mo_evaluate_76 rfl ?_
              refine g_Mo_cell X k_Mo_90 d_Mo_evaluate_77 ?_
              refine V.aload_n X d_Mo_evaluate_80 rfl ?_
              refine V.aload_n X d_Mo_evaluate_81 rfl ?_
              refine g_Mo_pMeans X k_Mo_38 d_Mo_evaluate_82 ?_
              refine V.aload_n X d_Mo_evaluate_85 rfl ?_
              refine g_Mo_pc (x := (r_pc S)) X rfl k_Mo_300 d_Mo_evaluate_86 ?_
              obtain ⟨g10, hres⟩ := hres
              refine l_Mo_pMeans (x := ((r_pMeans S) (r_pc S))) X g10 (congrFun rfl _) d_Mo_evaluate_89 ?_
              obtain ⟨v11, S11, x11, hres⟩ := hres
              refine V.callV1 X (c_Mo_place (h + 0) x11) Y_Mo_place k_Mo_306 0 rfl rfl rfl rfl rfl (Rok.lt (by omega)) d_Mo_evaluate_90 ?_
              obtain ⟨g12, hres⟩ := hres
              refine l_Mo_cell (x := ((r_cell S11) v11)) X g12 (congrFun rfl _) d_Mo_evaluate_93 ?_
              obtain ⟨S13, x13, hres⟩ := hres
              refine V.callV0 X (c_Mo_multiply (h + 1) x13) Y_Mo_multiply k_Mo_309 0 rfl rfl rfl rfl rfl (Rok.lt (by omega)) d_Mo_evaluate_94 ?_
              refine V.aload_n X d_Mo_evaluate_97 rfl ?_
              refine V.dup X d_Mo_evaluate_98 rfl ?_
              refine g_Mo_pc (x := (r_pc S13)) X rfl k_Mo_300 d_Mo_evaluate_99 ?_
              refine V.iconst (v := nI 1) X d_Mo_evaluate_102 (by decide +kernel) ?_
              refine V.iadd X d_Mo_evaluate_103 (nI_add _ _) ?_
              refine p_Mo_pc X k_Mo_300 d_Mo_evaluate_104 ?_
              refine V.pick [0, 1] rfl ?_
              refine V.lvs (lv' := [(0, .ref (b 0)), (1, .int (nI x1N))]) rfl ?_
              exact ih.2 _ (w_pc S13 ((r_pc S13) + 1)) hres
            · replace hres := or_t hres h61_9
              refine V.aload_n X d_Mo_evaluate_64 rfl ?_
              refine g_Mo_pWord X k_Mo_35 d_Mo_evaluate_65 ?_
              refine V.aload_n X d_Mo_evaluate_68 rfl ?_
              refine g_Mo_pc (x := (r_pc S)) X rfl k_Mo_300 d_Mo_evaluate_69 ?_
              obtain ⟨g14, hres⟩ := hres
              refine l_Mo_pWord (x := ((r_pWord S) (r_pc S))) X g14 (congrFun rfl _) d_Mo_evaluate_72 ?_
              refine V.goto (tgt := 94) X d_Mo_evaluate_73 (by decide) ?_
              obtain ⟨S15, x15, hres⟩ := hres
              refine V.callV0 X (c_Mo_multiply (h + 1) x15) Y_Mo_multiply k_Mo_309 0 rfl rfl rfl rfl rfl (Rok.lt (by omega)) d_Mo_evaluate_94 ?_
              refine V.aload_n X d_Mo_evaluate_97 rfl ?_
              refine V.dup X d_Mo_evaluate_98 rfl ?_
              refine g_Mo_pc (x := (r_pc S15)) X rfl k_Mo_300 d_Mo_evaluate_99 ?_
              refine V.iconst (v := nI 1) X d_Mo_evaluate_102 (by decide +kernel) ?_
              refine V.iadd X d_Mo_evaluate_103 (nI_add _ _) ?_
              refine p_Mo_pc X k_Mo_300 d_Mo_evaluate_104 ?_
              refine V.pick [0, 1] rfl ?_
              refine V.lvs (lv' := [(0, .ref (b 0)), (1, .int (nI x1N))]) rfl ?_
              exact ih.2 _ (w_pc S15 ((r_pc S15) + 1)) hres
          · replace hres := or_t hres h33_7
            refine V.aload_n X d_Mo_evaluate_36 rfl ?_
            refine V.dup X d_Mo_evaluate_37 rfl ?_
            refine g_Mo_pc (x := (r_pc S)) X rfl k_Mo_300 d_Mo_evaluate_38 ?_
            refine V.iconst (v := nI 1) X d_Mo_evaluate_41 (by decide +kernel) ?_
            refine V.iadd X d_Mo_evaluate_42 (nI_add _ _) ?_
            refine p_Mo_pc X k_Mo_300 d_Mo_evaluate_43 ?_
            refine V.iinc (lv' := [(0, .ref (b 0)), (1, .int (nI (x1N + 1))), (2, .int (nI 1)), (3, .int (nI ((r_pKind S) (r_pc S))))]) X d_Mo_evaluate_46 rfl (show _ + nI 1 = _ from nI_add _ 1) (by decide) rfl ?_
            refine V.aload_n X d_Mo_evaluate_49 rfl ?_
            refine V.iload_n X d_Mo_evaluate_50 rfl ?_
            obtain ⟨S16, x16, hres⟩ := hres
            refine V.callV0 X (c_Mo_openSum (h + 1) x16) Y_Mo_openSum k_Mo_303 0 rfl rfl rfl rfl rfl (Rok.lt (by omega)) d_Mo_evaluate_51 ?_
            refine V.goto (tgt := 9) X d_Mo_evaluate_54 (by decide) ?_
            refine V.pick [0, 1, 2] rfl ?_
            refine V.lvs (lv' := [(0, .ref (b 0)), (1, .int (nI (x1N + 1))), (2, .int (nI 1))]) rfl ?_
            exact ih.1 _ S16 hres
      · intro x1N S hres
        rw [mo_evaluate_go] at hres
        try dsimp only at hres
        refine V.iload_n X d_Mo_evaluate_107 rfl ?_
        obtain ⟨g18, hres⟩ := hres
        refine V.ifN_le (tgt := 166) X d_Mo_evaluate_108 (by decide) (by omega) (fun h108_17 => ?_) (fun h108_17 => ?_)
        · replace hres := or_t hres h108_17
          refine V.aload_n X d_Mo_evaluate_166 rfl ?_
          refine g_Mo_pKind X k_Mo_32 d_Mo_evaluate_167 ?_
          refine V.aload_n X d_Mo_evaluate_170 rfl ?_
          refine g_Mo_pc (x := (r_pc S)) X rfl k_Mo_300 d_Mo_evaluate_171 ?_
          obtain ⟨g19, hres⟩ := hres
          refine l_Mo_pKind (x := ((r_pKind S) (r_pc S))) X g19 (congrFun rfl _) d_Mo_evaluate_174 ?_
          refine V.istore_n (lv' := [(0, .ref (b 0)), (1, .int (nI x1N)), (3, .int (nI ((r_pKind S) (r_pc S))))]) X d_Mo_evaluate_175 (by decide) rfl ?_
          refine V.aload_n X d_Mo_evaluate_176 rfl ?_
          refine V.iload_n X d_Mo_evaluate_177 rfl ?_
          obtain ⟨g20, hres⟩ := hres
          refine V.callV1 X (c_Mo_operator (h + 2) (by omega)) Y_Mo_operator k_Mo_239 0 rfl rfl rfl rfl rfl (Rok.lt (by omega)) d_Mo_evaluate_178 ?_
          refine V.istore_n (lv' := [(0, .ref (b 0)), (1, .int (nI x1N)), (2, .int (bI (isOp ((r_pKind S) (r_pc S))))), (3, .int (nI ((r_pKind S) (r_pc S))))]) X d_Mo_evaluate_181 (by decide) rfl ?_
          refine V.iload_n X d_Mo_evaluate_182 rfl ?_
          refine V.ifB_ne (tgt := 189) X d_Mo_evaluate_183 (by decide) (fun h183_21 => ?_) (fun h183_21 => ?_)
          · replace hres := or_t hres h183_21
            refine V.iload_n X d_Mo_evaluate_189 rfl ?_
            refine V.bipush (v := nI 43) X d_Mo_evaluate_190 (by decide +kernel) ?_
            refine V.cmpN_eq (tgt := 201) X d_Mo_evaluate_192 (by decide) (by omega) (by omega) (fun h192_22 => ?_) (fun h192_22 => ?_)
            · replace hres := or_t hres h192_22
              refine V.aload_n X d_Mo_evaluate_201 rfl ?_
              refine V.iload_n X d_Mo_evaluate_202 rfl ?_
              obtain ⟨S23, x23, hres⟩ := hres
              refine V.callV0 X (c_Mo_add (h + 1) x23) Y_Mo_add k_Mo_312 0 rfl rfl rfl rfl rfl (Rok.lt (by omega)) d_Mo_evaluate_203 ?_
              refine V.aload_n X d_Mo_evaluate_206 rfl ?_
              refine g_Mo_sumSign X k_Mo_123 d_Mo_evaluate_207 ?_
              refine V.iload_n X d_Mo_evaluate_210 rfl ?_
              refine V.iload_n X d_Mo_evaluate_211 rfl ?_
              obtain ⟨g24, hres⟩ := hres
              refine s_Mo_sumSign (g := (r_sumSign S23)) X g24 rfl d_Mo_evaluate_212 ?_
              refine V.aload_n X d_Mo_evaluate_213 rfl ?_
              refine g_Mo_termSign X k_Mo_126 d_Mo_evaluate_214 ?_
              refine V.iload_n X d_Mo_evaluate_217 rfl ?_
              refine V.iconst (v := nI 0) X d_Mo_evaluate_218 (by decide +kernel) ?_
              obtain ⟨g25, hres⟩ := hres
              refine s_Mo_termSign (g := (r_termSign S23)) X g25 (rw_termSign_sumSign _ _) d_Mo_evaluate_219 ?_
              refine V.goto (tgt := 230) X d_Mo_evaluate_220 (by decide) ?_
              refine V.aload_n X d_Mo_evaluate_230 rfl ?_
              refine V.dup X d_Mo_evaluate_231 rfl ?_
              refine g_Mo_pc (x := (r_pc S23)) X (Eq.trans (rw_pc_termSign _ _) (rw_pc_sumSign _ _)) k_Mo_300 d_Mo_evaluate_232 ?_
              refine V.iconst (v := nI 1) X d_Mo_evaluate_235 (by decide +kernel) ?_
              refine V.iadd X d_Mo_evaluate_236 (nI_add _ _) ?_
              refine p_Mo_pc X k_Mo_300 d_Mo_evaluate_237 ?_
              refine V.goto (tgt := 9) X d_Mo_evaluate_240 (by decide) ?_
              refine V.lvs (lv' := [(0, .ref (b 0)), (1, .int (nI x1N)), (2, .int (nI 1)), (3, .int (nI ((r_pKind S) (r_pc S))))]) (by rw [h183_21]; rfl) ?_
              refine V.pick [0, 1, 2] rfl ?_
              refine V.lvs (lv' := [(0, .ref (b 0)), (1, .int (nI x1N)), (2, .int (nI 1))]) rfl ?_
              exact ih.1 _ (w_pc (w_termSign (w_sumSign S23 (va_up (r_sumSign S23) x1N ((r_pKind S) (r_pc S)))) (va_up (r_termSign S23) x1N 0)) ((r_pc S23) + 1)) hres
            · replace hres := or_f hres h192_22
              refine V.iload_n X d_Mo_evaluate_195 rfl ?_
              refine V.bipush (v := nI 45) X d_Mo_evaluate_196 (by decide +kernel) ?_
              refine V.cmpN_ne (tgt := 223) X d_Mo_evaluate_198 (by decide) (by omega) (by omega) (fun h198_26 => ?_) (fun h198_26 => ?_)
              · replace hres := or_f hres h198_26
                refine V.aload_n X d_Mo_evaluate_223 rfl ?_
                refine g_Mo_termSign X k_Mo_126 d_Mo_evaluate_224 ?_
                refine V.iload_n X d_Mo_evaluate_227 rfl ?_
                refine V.iload_n X d_Mo_evaluate_228 rfl ?_
                obtain ⟨g27, hres⟩ := hres
                refine s_Mo_termSign (g := (r_termSign S)) X g27 rfl d_Mo_evaluate_229 ?_
                refine V.aload_n X d_Mo_evaluate_230 rfl ?_
                refine V.dup X d_Mo_evaluate_231 rfl ?_
                refine g_Mo_pc (x := (r_pc S)) X (rw_pc_termSign _ _) k_Mo_300 d_Mo_evaluate_232 ?_
                refine V.iconst (v := nI 1) X d_Mo_evaluate_235 (by decide +kernel) ?_
                refine V.iadd X d_Mo_evaluate_236 (nI_add _ _) ?_
                refine p_Mo_pc X k_Mo_300 d_Mo_evaluate_237 ?_
                refine V.goto (tgt := 9) X d_Mo_evaluate_240 (by decide) ?_
                refine V.lvs (lv' := [(0, .ref (b 0)), (1, .int (nI x1N)), (2, .int (nI 1)), (3, .int (nI ((r_pKind S) (r_pc S))))]) (by rw [h183_21]; rfl) ?_
                refine V.pick [0, 1, 2] rfl ?_
                refine V.lvs (lv' := [(0, .ref (b 0)), (1, .int (nI x1N)), (2, .int (nI 1))]) rfl ?_
                exact ih.1 _ (w_pc (w_termSign S (va_up (r_termSign S) x1N ((r_pKind S) (r_pc S)))) ((r_pc S) + 1)) hres
              · replace hres := or_t hres h198_26
                refine V.aload_n X d_Mo_evaluate_201 rfl ?_
                refine V.iload_n X d_Mo_evaluate_202 rfl ?_
                obtain ⟨S28, x28, hres⟩ := hres
                refine V.callV0 X (c_Mo_add (h + 1) x28) Y_Mo_add k_Mo_312 0 rfl rfl rfl rfl rfl (Rok.lt (by omega)) d_Mo_evaluate_203 ?_
                refine V.aload_n X d_Mo_evaluate_206 rfl ?_
                refine g_Mo_sumSign X k_Mo_123 d_Mo_evaluate_207 ?_
                refine V.iload_n X d_Mo_evaluate_210 rfl ?_
                refine V.iload_n X d_Mo_evaluate_211 rfl ?_
                obtain ⟨g29, hres⟩ := hres
                refine s_Mo_sumSign (g := (r_sumSign S28)) X g29 rfl d_Mo_evaluate_212 ?_
                refine V.aload_n X d_Mo_evaluate_213 rfl ?_
                refine g_Mo_termSign X k_Mo_126 d_Mo_evaluate_214 ?_
                refine V.iload_n X d_Mo_evaluate_217 rfl ?_
                refine V.iconst (v := nI 0) X d_Mo_evaluate_218 (by decide +kernel) ?_
                obtain ⟨g30, hres⟩ := hres
                refine s_Mo_termSign (g := (r_termSign S28)) X g30 (rw_termSign_sumSign _ _) d_Mo_evaluate_219 ?_
                refine V.goto (tgt := 230) X d_Mo_evaluate_220 (by decide) ?_
                refine V.aload_n X d_Mo_evaluate_230 rfl ?_
                refine V.dup X d_Mo_evaluate_231 rfl ?_
                refine g_Mo_pc (x := (r_pc S28)) X (Eq.trans (rw_pc_termSign _ _) (rw_pc_sumSign _ _)) k_Mo_300 d_Mo_evaluate_232 ?_
                refine V.iconst (v := nI 1) X d_Mo_evaluate_235 (by decide +kernel) ?_
                refine V.iadd X d_Mo_evaluate_236 (nI_add _ _) ?_
                refine p_Mo_pc X k_Mo_300 d_Mo_evaluate_237 ?_
                refine V.goto (tgt := 9) X d_Mo_evaluate_240 (by decide) ?_
                refine V.lvs (lv' := [(0, .ref (b 0)), (1, .int (nI x1N)), (2, .int (nI 1)), (3, .int (nI ((r_pKind S) (r_pc S))))]) (by rw [h183_21]; rfl) ?_
                refine V.pick [0, 1, 2] rfl ?_
                refine V.lvs (lv' := [(0, .ref (b 0)), (1, .int (nI x1N)), (2, .int (nI 1))]) rfl ?_
                exact ih.1 _ (w_pc (w_termSign (w_sumSign S28 (va_up (r_sumSign S28) x1N ((r_pKind S) (r_pc S)))) (va_up (r_termSign S28) x1N 0)) ((r_pc S28) + 1)) hres
          · replace hres := or_f hres (by rw [h183_21]; decide)
            refine V.goto (tgt := 9) X d_Mo_evaluate_186 (by decide) ?_
            refine V.iload_n X d_Mo_evaluate_9 rfl ?_
            refine V.ifB_eq (tgt := 243) X d_Mo_evaluate_10 (by decide) (fun _ => ?_) (fun h => absurd (h183_21.symm.trans h) (by decide))
            refine V.aload_n X d_Mo_evaluate_243 rfl ?_
            refine V.iload_n X d_Mo_evaluate_244 rfl ?_
            obtain ⟨S32, x32, hres⟩ := hres
            refine V.callV0 X (c_Mo_add (h + 1) x32) Y_Mo_add k_Mo_312 0 rfl rfl rfl rfl rfl (Rok.lt (by omega)) d_Mo_evaluate_245 ?_
            refine V.aload_n X d_Mo_evaluate_248 rfl ?_
            refine g_Mo_sum X k_Mo_117 d_Mo_evaluate_249 ?_
            refine V.iload_n X d_Mo_evaluate_252 rfl ?_
            obtain ⟨g33, hres⟩ := hres
            refine l_Mo_sum (x := ((r_sum S32) x1N)) X g33 (congrFun rfl _) d_Mo_evaluate_253 ?_
            obtain ⟨rfl, rfl⟩ := hres
            exact V.iret X d_Mo_evaluate_254 rfl rfl
        · replace hres := or_f hres h108_17
          refine V.aload_n X d_Mo_evaluate_111 rfl ?_
          refine g_Mo_pKind X k_Mo_32 d_Mo_evaluate_112 ?_
          refine V.aload_n X d_Mo_evaluate_115 rfl ?_
          refine g_Mo_pc (x := (r_pc S)) X rfl k_Mo_300 d_Mo_evaluate_116 ?_
          obtain ⟨g34, hres⟩ := hres
          refine l_Mo_pKind (x := ((r_pKind S) (r_pc S))) X g34 (congrFun rfl _) d_Mo_evaluate_119 ?_
          refine V.bipush (v := nI 41) X d_Mo_evaluate_120 (by decide +kernel) ?_
          obtain ⟨g36, hres⟩ := hres
          refine V.cmpN_ne (tgt := 166) X d_Mo_evaluate_122 (by decide) (by omega) (by omega) (fun h122_35 => ?_) (fun h122_35 => ?_)
          · replace hres := or_f hres h122_35
            refine V.aload_n X d_Mo_evaluate_166 rfl ?_
            refine g_Mo_pKind X k_Mo_32 d_Mo_evaluate_167 ?_
            refine V.aload_n X d_Mo_evaluate_170 rfl ?_
            refine g_Mo_pc (x := (r_pc S)) X rfl k_Mo_300 d_Mo_evaluate_171 ?_
            obtain ⟨g37, hres⟩ := hres
            refine l_Mo_pKind (x := ((r_pKind S) (r_pc S))) X g37 (congrFun rfl _) d_Mo_evaluate_174 ?_
            refine V.istore_n (lv' := [(0, .ref (b 0)), (1, .int (nI x1N)), (3, .int (nI ((r_pKind S) (r_pc S))))]) X d_Mo_evaluate_175 (by decide) rfl ?_
            refine V.aload_n X d_Mo_evaluate_176 rfl ?_
            refine V.iload_n X d_Mo_evaluate_177 rfl ?_
            refine V.callV1 X (c_Mo_operator (h + 2) (by omega)) Y_Mo_operator k_Mo_239 0 rfl rfl rfl rfl rfl (Rok.lt (by omega)) d_Mo_evaluate_178 ?_
            refine V.istore_n (lv' := [(0, .ref (b 0)), (1, .int (nI x1N)), (2, .int (bI (isOp ((r_pKind S) (r_pc S))))), (3, .int (nI ((r_pKind S) (r_pc S))))]) X d_Mo_evaluate_181 (by decide) rfl ?_
            refine V.iload_n X d_Mo_evaluate_182 rfl ?_
            refine V.ifB_ne (tgt := 189) X d_Mo_evaluate_183 (by decide) (fun h183_38 => ?_) (fun h183_38 => ?_)
            · replace hres := or_t hres h183_38
              refine V.iload_n X d_Mo_evaluate_189 rfl ?_
              refine V.bipush (v := nI 43) X d_Mo_evaluate_190 (by decide +kernel) ?_
              refine V.cmpN_eq (tgt := 201) X d_Mo_evaluate_192 (by decide) (by omega) (by omega) (fun h192_39 => ?_) (fun h192_39 => ?_)
              · replace hres := or_t hres h192_39
                refine V.aload_n X d_Mo_evaluate_201 rfl ?_
                refine V.iload_n X d_Mo_evaluate_202 rfl ?_
                obtain ⟨S40, x40, hres⟩ := hres
                refine V.callV0 X (c_Mo_add (h + 1) x40) Y_Mo_add k_Mo_312 0 rfl rfl rfl rfl rfl (Rok.lt (by omega)) d_Mo_evaluate_203 ?_
                refine V.aload_n X d_Mo_evaluate_206 rfl ?_
                refine g_Mo_sumSign X k_Mo_123 d_Mo_evaluate_207 ?_
                refine V.iload_n X d_Mo_evaluate_210 rfl ?_
                refine V.iload_n X d_Mo_evaluate_211 rfl ?_
                obtain ⟨g41, hres⟩ := hres
                refine s_Mo_sumSign (g := (r_sumSign S40)) X g41 rfl d_Mo_evaluate_212 ?_
                refine V.aload_n X d_Mo_evaluate_213 rfl ?_
                refine g_Mo_termSign X k_Mo_126 d_Mo_evaluate_214 ?_
                refine V.iload_n X d_Mo_evaluate_217 rfl ?_
                refine V.iconst (v := nI 0) X d_Mo_evaluate_218 (by decide +kernel) ?_
                obtain ⟨g42, hres⟩ := hres
                refine s_Mo_termSign (g := (r_termSign S40)) X g42 (rw_termSign_sumSign _ _) d_Mo_evaluate_219 ?_
                refine V.goto (tgt := 230) X d_Mo_evaluate_220 (by decide) ?_
                refine V.aload_n X d_Mo_evaluate_230 rfl ?_
                refine V.dup X d_Mo_evaluate_231 rfl ?_
                refine g_Mo_pc (x := (r_pc S40)) X (Eq.trans (rw_pc_termSign _ _) (rw_pc_sumSign _ _)) k_Mo_300 d_Mo_evaluate_232 ?_
                refine V.iconst (v := nI 1) X d_Mo_evaluate_235 (by decide +kernel) ?_
                refine V.iadd X d_Mo_evaluate_236 (nI_add _ _) ?_
                refine p_Mo_pc X k_Mo_300 d_Mo_evaluate_237 ?_
                refine V.goto (tgt := 9) X d_Mo_evaluate_240 (by decide) ?_
                refine V.lvs (lv' := [(0, .ref (b 0)), (1, .int (nI x1N)), (2, .int (nI 1)), (3, .int (nI ((r_pKind S) (r_pc S))))]) (by rw [h183_38]; rfl) ?_
                refine V.pick [0, 1, 2] rfl ?_
                refine V.lvs (lv' := [(0, .ref (b 0)), (1, .int (nI x1N)), (2, .int (nI 1))]) rfl ?_
                exact ih.1 _ (w_pc (w_termSign (w_sumSign S40 (va_up (r_sumSign S40) x1N ((r_pKind S) (r_pc S)))) (va_up (r_termSign S40) x1N 0)) ((r_pc S40) + 1)) hres
              · replace hres := or_f hres h192_39
                refine V.iload_n X d_Mo_evaluate_195 rfl ?_
                refine V.bipush (v := nI 45) X d_Mo_evaluate_196 (by decide +kernel) ?_
                refine V.cmpN_ne (tgt := 223) X d_Mo_evaluate_198 (by decide) (by omega) (by omega) (fun h198_43 => ?_) (fun h198_43 => ?_)
                · replace hres := or_f hres h198_43
                  refine V.aload_n X d_Mo_evaluate_223 rfl ?_
                  refine g_Mo_termSign X k_Mo_126 d_Mo_evaluate_224 ?_
                  refine V.iload_n X d_Mo_evaluate_227 rfl ?_
                  refine V.iload_n X d_Mo_evaluate_228 rfl ?_
                  obtain ⟨g44, hres⟩ := hres
                  refine s_Mo_termSign (g := (r_termSign S)) X g44 rfl d_Mo_evaluate_229 ?_
                  refine V.aload_n X d_Mo_evaluate_230 rfl ?_
                  refine V.dup X d_Mo_evaluate_231 rfl ?_
                  refine g_Mo_pc (x := (r_pc S)) X (rw_pc_termSign _ _) k_Mo_300 d_Mo_evaluate_232 ?_
                  refine V.iconst (v := nI 1) X d_Mo_evaluate_235 (by decide +kernel) ?_
                  refine V.iadd X d_Mo_evaluate_236 (nI_add _ _) ?_
                  refine p_Mo_pc X k_Mo_300 d_Mo_evaluate_237 ?_
                  refine V.goto (tgt := 9) X d_Mo_evaluate_240 (by decide) ?_
                  refine V.lvs (lv' := [(0, .ref (b 0)), (1, .int (nI x1N)), (2, .int (nI 1)), (3, .int (nI ((r_pKind S) (r_pc S))))]) (by rw [h183_38]; rfl) ?_
                  refine V.pick [0, 1, 2] rfl ?_
                  refine V.lvs (lv' := [(0, .ref (b 0)), (1, .int (nI x1N)), (2, .int (nI 1))]) rfl ?_
                  exact ih.1 _ (w_pc (w_termSign S (va_up (r_termSign S) x1N ((r_pKind S) (r_pc S)))) ((r_pc S) + 1)) hres
                · replace hres := or_t hres h198_43
                  refine V.aload_n X d_Mo_evaluate_201 rfl ?_
                  refine V.iload_n X d_Mo_evaluate_202 rfl ?_
                  obtain ⟨S45, x45, hres⟩ := hres
                  refine V.callV0 X (c_Mo_add (h + 1) x45) Y_Mo_add k_Mo_312 0 rfl rfl rfl rfl rfl (Rok.lt (by omega)) d_Mo_evaluate_203 ?_
                  refine V.aload_n X d_Mo_evaluate_206 rfl ?_
                  refine g_Mo_sumSign X k_Mo_123 d_Mo_evaluate_207 ?_
                  refine V.iload_n X d_Mo_evaluate_210 rfl ?_
                  refine V.iload_n X d_Mo_evaluate_211 rfl ?_
                  obtain ⟨g46, hres⟩ := hres
                  refine s_Mo_sumSign (g := (r_sumSign S45)) X g46 rfl d_Mo_evaluate_212 ?_
                  refine V.aload_n X d_Mo_evaluate_213 rfl ?_
                  refine g_Mo_termSign X k_Mo_126 d_Mo_evaluate_214 ?_
                  refine V.iload_n X d_Mo_evaluate_217 rfl ?_
                  refine V.iconst (v := nI 0) X d_Mo_evaluate_218 (by decide +kernel) ?_
                  obtain ⟨g47, hres⟩ := hres
                  refine s_Mo_termSign (g := (r_termSign S45)) X g47 (rw_termSign_sumSign _ _) d_Mo_evaluate_219 ?_
                  refine V.goto (tgt := 230) X d_Mo_evaluate_220 (by decide) ?_
                  refine V.aload_n X d_Mo_evaluate_230 rfl ?_
                  refine V.dup X d_Mo_evaluate_231 rfl ?_
                  refine g_Mo_pc (x := (r_pc S45)) X (Eq.trans (rw_pc_termSign _ _) (rw_pc_sumSign _ _)) k_Mo_300 d_Mo_evaluate_232 ?_
                  refine V.iconst (v := nI 1) X d_Mo_evaluate_235 (by decide +kernel) ?_
                  refine V.iadd X d_Mo_evaluate_236 (nI_add _ _) ?_
                  refine p_Mo_pc X k_Mo_300 d_Mo_evaluate_237 ?_
                  refine V.goto (tgt := 9) X d_Mo_evaluate_240 (by decide) ?_
                  refine V.lvs (lv' := [(0, .ref (b 0)), (1, .int (nI x1N)), (2, .int (nI 1)), (3, .int (nI ((r_pKind S) (r_pc S))))]) (by rw [h183_38]; rfl) ?_
                  refine V.pick [0, 1, 2] rfl ?_
                  refine V.lvs (lv' := [(0, .ref (b 0)), (1, .int (nI x1N)), (2, .int (nI 1))]) rfl ?_
                  exact ih.1 _ (w_pc (w_termSign (w_sumSign S45 (va_up (r_sumSign S45) x1N ((r_pKind S) (r_pc S)))) (va_up (r_termSign S45) x1N 0)) ((r_pc S45) + 1)) hres
            · replace hres := or_f hres (by rw [h183_38]; decide)
              refine V.goto (tgt := 9) X d_Mo_evaluate_186 (by decide) ?_
              refine V.iload_n X d_Mo_evaluate_9 rfl ?_
              refine V.ifB_eq (tgt := 243) X d_Mo_evaluate_10 (by decide) (fun _ => ?_) (fun h => absurd (h183_38.symm.trans h) (by decide))
              refine V.aload_n X d_Mo_evaluate_243 rfl ?_
              refine V.iload_n X d_Mo_evaluate_244 rfl ?_
              obtain ⟨S49, x49, hres⟩ := hres
              refine V.callV0 X (c_Mo_add (h + 1) x49) Y_Mo_add k_Mo_312 0 rfl rfl rfl rfl rfl (Rok.lt (by omega)) d_Mo_evaluate_245 ?_
              refine V.aload_n X d_Mo_evaluate_248 rfl ?_
              refine g_Mo_sum X k_Mo_117 d_Mo_evaluate_249 ?_
              refine V.iload_n X d_Mo_evaluate_252 rfl ?_
              obtain ⟨g50, hres⟩ := hres
              refine l_Mo_sum (x := ((r_sum S49) x1N)) X g50 (congrFun rfl _) d_Mo_evaluate_253 ?_
              obtain ⟨rfl, rfl⟩ := hres
              exact V.iret X d_Mo_evaluate_254 rfl rfl
          · replace hres := or_t hres h122_35
            refine V.aload_n X d_Mo_evaluate_125 rfl ?_
            refine g_Mo_failure (x := (r_failure S)) X rfl k_Mo_297 d_Mo_evaluate_126 ?_
            obtain ⟨g52, hres⟩ := hres
            refine V.ifN_ne (tgt := 166) X d_Mo_evaluate_129 (by decide) (by omega) (fun h129_51 => ?_) (fun h129_51 => ?_)
            · replace hres := or_f hres h129_51
              refine V.aload_n X d_Mo_evaluate_166 rfl ?_
              refine g_Mo_pKind X k_Mo_32 d_Mo_evaluate_167 ?_
              refine V.aload_n X d_Mo_evaluate_170 rfl ?_
              refine g_Mo_pc (x := (r_pc S)) X rfl k_Mo_300 d_Mo_evaluate_171 ?_
              obtain ⟨g53, hres⟩ := hres
              refine l_Mo_pKind (x := ((r_pKind S) (r_pc S))) X g53 (congrFun rfl _) d_Mo_evaluate_174 ?_
              refine V.istore_n (lv' := [(0, .ref (b 0)), (1, .int (nI x1N)), (3, .int (nI ((r_pKind S) (r_pc S))))]) X d_Mo_evaluate_175 (by decide) rfl ?_
              refine V.aload_n X d_Mo_evaluate_176 rfl ?_
              refine V.iload_n X d_Mo_evaluate_177 rfl ?_
              refine V.callV1 X (c_Mo_operator (h + 2) (by omega)) Y_Mo_operator k_Mo_239 0 rfl rfl rfl rfl rfl (Rok.lt (by omega)) d_Mo_evaluate_178 ?_
              refine V.istore_n (lv' := [(0, .ref (b 0)), (1, .int (nI x1N)), (2, .int (bI (isOp ((r_pKind S) (r_pc S))))), (3, .int (nI ((r_pKind S) (r_pc S))))]) X d_Mo_evaluate_181 (by decide) rfl ?_
              refine V.iload_n X d_Mo_evaluate_182 rfl ?_
              refine V.ifB_ne (tgt := 189) X d_Mo_evaluate_183 (by decide) (fun h183_54 => ?_) (fun h183_54 => ?_)
              · replace hres := or_t hres h183_54
                refine V.iload_n X d_Mo_evaluate_189 rfl ?_
                refine V.bipush (v := nI 43) X d_Mo_evaluate_190 (by decide +kernel) ?_
                refine V.cmpN_eq (tgt := 201) X d_Mo_evaluate_192 (by decide) (by omega) (by omega) (fun h => absurd h (by omega)) (fun _ => ?_)
                refine V.iload_n X d_Mo_evaluate_195 rfl ?_
                refine V.bipush (v := nI 45) X d_Mo_evaluate_196 (by decide +kernel) ?_
                refine V.cmpN_ne (tgt := 223) X d_Mo_evaluate_198 (by decide) (by omega) (by omega) (fun _ => ?_) (fun h => absurd h (by omega))
                refine V.aload_n X d_Mo_evaluate_223 rfl ?_
                refine g_Mo_termSign X k_Mo_126 d_Mo_evaluate_224 ?_
                refine V.iload_n X d_Mo_evaluate_227 rfl ?_
                refine V.iload_n X d_Mo_evaluate_228 rfl ?_
                obtain ⟨g57, hres⟩ := hres
                refine s_Mo_termSign (g := (r_termSign S)) X g57 rfl d_Mo_evaluate_229 ?_
                refine V.aload_n X d_Mo_evaluate_230 rfl ?_
                refine V.dup X d_Mo_evaluate_231 rfl ?_
                refine g_Mo_pc (x := (r_pc S)) X (rw_pc_termSign _ _) k_Mo_300 d_Mo_evaluate_232 ?_
                refine V.iconst (v := nI 1) X d_Mo_evaluate_235 (by decide +kernel) ?_
                refine V.iadd X d_Mo_evaluate_236 (nI_add _ _) ?_
                refine p_Mo_pc X k_Mo_300 d_Mo_evaluate_237 ?_
                refine V.goto (tgt := 9) X d_Mo_evaluate_240 (by decide) ?_
                refine V.lvs (lv' := [(0, .ref (b 0)), (1, .int (nI x1N)), (2, .int (nI 1)), (3, .int (nI ((r_pKind S) (r_pc S))))]) (by rw [h183_54]; rfl) ?_
                refine V.pick [0, 1, 2] rfl ?_
                refine V.lvs (lv' := [(0, .ref (b 0)), (1, .int (nI x1N)), (2, .int (nI 1))]) rfl ?_
                exact ih.1 _ (w_pc (w_termSign S (va_up (r_termSign S) x1N ((r_pKind S) (r_pc S)))) ((r_pc S) + 1)) hres
              · replace hres := or_f hres (by rw [h183_54]; decide)
                refine V.goto (tgt := 9) X d_Mo_evaluate_186 (by decide) ?_
                refine V.iload_n X d_Mo_evaluate_9 rfl ?_
                refine V.ifB_eq (tgt := 243) X d_Mo_evaluate_10 (by decide) (fun _ => ?_) (fun h => absurd (h183_54.symm.trans h) (by decide))
                refine V.aload_n X d_Mo_evaluate_243 rfl ?_
                refine V.iload_n X d_Mo_evaluate_244 rfl ?_
                obtain ⟨S59, x59, hres⟩ := hres
                refine V.callV0 X (c_Mo_add (h + 1) x59) Y_Mo_add k_Mo_312 0 rfl rfl rfl rfl rfl (Rok.lt (by omega)) d_Mo_evaluate_245 ?_
                refine V.aload_n X d_Mo_evaluate_248 rfl ?_
                refine g_Mo_sum X k_Mo_117 d_Mo_evaluate_249 ?_
                refine V.iload_n X d_Mo_evaluate_252 rfl ?_
                obtain ⟨g60, hres⟩ := hres
                refine l_Mo_sum (x := ((r_sum S59) x1N)) X g60 (congrFun rfl _) d_Mo_evaluate_253 ?_
                obtain ⟨rfl, rfl⟩ := hres
                exact V.iret X d_Mo_evaluate_254 rfl rfl
            · replace hres := or_t hres h129_51
              refine V.aload_n X d_Mo_evaluate_132 rfl ?_
              refine V.iload_n X d_Mo_evaluate_133 rfl ?_
              obtain ⟨S61, x61, hres⟩ := hres
              refine V.callV0 X (c_Mo_add (h + 1) x61) Y_Mo_add k_Mo_312 0 rfl rfl rfl rfl rfl (Rok.lt (by omega)) d_Mo_evaluate_134 ?_
              refine V.aload_n X d_Mo_evaluate_137 rfl ?_
              refine V.dup X d_Mo_evaluate_138 rfl ?_
              refine g_Mo_pc (x := (r_pc S61)) X rfl k_Mo_300 d_Mo_evaluate_139 ?_
              refine V.iconst (v := nI 1) X d_Mo_evaluate_142 (by decide +kernel) ?_
              refine V.iadd X d_Mo_evaluate_143 (nI_add _ _) ?_
              refine p_Mo_pc X k_Mo_300 d_Mo_evaluate_144 ?_
              obtain ⟨g62, hres⟩ := hres
              refine V.iinc (lv' := [(0, .ref (b 0)), (1, .int (nI (x1N - 1)))]) X d_Mo_evaluate_147 rfl (dec_nI g62) (by decide) rfl ?_
              refine V.aload_n X d_Mo_evaluate_150 rfl ?_
              refine V.iload_n X d_Mo_evaluate_151 rfl ?_
              refine V.aload_n X d_Mo_evaluate_152 rfl ?_
              refine g_Mo_sum X k_Mo_117 d_Mo_evaluate_153 ?_
              refine V.iload_n X d_Mo_evaluate_156 rfl ?_
              refine V.iconst (v := nI 1) X d_Mo_evaluate_157 (by decide +kernel) ?_
              refine V.iadd X d_Mo_evaluate_158 (nI_add _ _) ?_
              obtain ⟨g63, hres⟩ := hres
              refine l_Mo_sum (x := ((r_sum S61) ((x1N - 1) + 1))) X g63 (congrFun (rw_sum_pc _ _) _) d_Mo_evaluate_159 ?_
              obtain ⟨S64, x64, hres⟩ := hres
              refine V.callV0 X (c_Mo_multiply (h + 1) x64) Y_Mo_multiply k_Mo_309 0 rfl rfl rfl rfl rfl (Rok.lt (by omega)) d_Mo_evaluate_160 ?_
              refine V.goto (tgt := 107) X d_Mo_evaluate_163 (by decide) ?_
              refine V.lvs (lv' := [(0, .ref (b 0)), (1, .int (nI (x1N - 1)))]) rfl ?_
              exact ih.2 _ S64 hres
  refine V.lvs (lv' := [(0, .ref (b 0))]) rfl ?_
  refine V.iconst (v := nI 0) X d_Mo_evaluate_0 (by decide +kernel) ?_
  refine V.istore_n (lv' := [(0, .ref (b 0)), (1, .int (nI 0))]) X d_Mo_evaluate_1 (by decide) rfl ?_
  refine V.aload_n X d_Mo_evaluate_2 rfl ?_
  refine V.iconst (v := nI 0) X d_Mo_evaluate_3 (by decide +kernel) ?_
  obtain ⟨S65, x65, hres⟩ := hres
  refine V.callV0 X (c_Mo_openSum (h + 1) x65) Y_Mo_openSum k_Mo_303 0 rfl rfl rfl rfl rfl (Rok.lt (by omega)) d_Mo_evaluate_4 ?_
  refine V.iconst (v := nI 1) X d_Mo_evaluate_7 (by decide +kernel) ?_
  refine V.istore_n (lv' := [(0, .ref (b 0)), (1, .int (nI 0)), (2, .int (nI 1))]) X d_Mo_evaluate_8 (by decide) rfl ?_
  refine V.lvs (lv' := [(0, .ref (b 0)), (1, .int (nI 0)), (2, .int (nI 1))]) rfl ?_
  obtain ⟨n, hres⟩ := hres
  exact (go n).1 _ S65 hres
def mo_step (S : MS) (S' : MS) : Prop := (r_steps S) < 2147483648 ∧ (((r_steps S) = 400 ∧ (S' = (w_failure S 3))) ∨ (¬ (r_steps S) = 400 ∧ (S' = (w_steps S ((r_steps S) + 1)))))
set_option maxHeartbeats 4000000 in
set_option maxRecDepth 100000 in
theorem c_Mo_step {l : Launch} {z : Zt} {b : Nat → Nat} {S : MS} {S' : MS} (h : Nat) (hres : mo_step S S') : XC l (Gz z) (h + 1) y_Mo_step b_Mo_step 1 none [.ref (b 0)] (mw z b S) (.inl none) (mw z b S') := by
  rw [mo_step] at hres
  refine XC.ofV (by decide +kernel) rfl ?_
  intro p e s m below meth c X hnm
  refine V.lvs (lv' := [(0, .ref (b 0))]) rfl ?_
  refine V.aload_n X d_Mo_step_0 rfl ?_
  refine g_Mo_steps (x := (r_steps S)) X rfl k_Mo_315 d_Mo_step_1 ?_
  refine V.sipush (v := nI 400) X d_Mo_step_4 (by decide +kernel) ?_
  obtain ⟨g2, hres⟩ := hres
  refine V.cmpN_ne (tgt := 18) X d_Mo_step_7 (by decide) (by omega) (by omega) (fun h7_1 => ?_) (fun h7_1 => ?_)
  · replace hres := or_f hres h7_1
    refine V.aload_n X d_Mo_step_18 rfl ?_
    refine V.dup X d_Mo_step_19 rfl ?_
    refine g_Mo_steps (x := (r_steps S)) X rfl k_Mo_315 d_Mo_step_20 ?_
    refine V.iconst (v := nI 1) X d_Mo_step_23 (by decide +kernel) ?_
    refine V.iadd X d_Mo_step_24 (nI_add _ _) ?_
    refine p_Mo_steps X k_Mo_315 d_Mo_step_25 ?_
    subst hres
    exact V.vret X d_Mo_step_28 rfl rfl
  · replace hres := or_t hres h7_1
    refine V.aload_n X d_Mo_step_10 rfl ?_
    refine V.iconst (v := nI 3) X d_Mo_step_11 (by decide +kernel) ?_
    refine p_Mo_failure X k_Mo_297 d_Mo_step_12 ?_
    refine V.goto (tgt := 28) X d_Mo_step_15 (by decide) ?_
    subst hres
    exact V.vret X d_Mo_step_28 rfl rfl
def mo_push (p1 : Nat) (p2 : Nat) (S : MS) (S' : MS) : Prop := ∃ t1, (r_frame S) = some t1 ∧ (t1 < 11 ∧ (((10 * t1) + ((r_level S) t1)) < 110 ∧ (t1 < 11 ∧ (((10 * t1) + ((r_level S) t1)) < 110 ∧ (t1 < 11 ∧ (t1 < 11 ∧ (S' = (w_level (w_doneAt (w_doing S (va_up (r_doing S) ((10 * t1) + ((r_level S) t1)) p1)) (va_up (r_doneAt S) ((10 * t1) + ((r_level S) t1)) p2)) (va_up (r_level S) t1 (((r_level S) t1) + 1))))))))))
set_option maxHeartbeats 4000000 in
set_option maxRecDepth 100000 in
theorem c_Mo_push {l : Launch} {z : Zt} {b : Nat → Nat} {S : MS} {p1 : Nat} {p2 : Nat} {S' : MS} (h : Nat) (hres : mo_push p1 p2 S S') : XC l (Gz z) (h + 1) y_Mo_push b_Mo_push 3 none [.ref (b 0), .int (nI p1), .int (nI p2)] (mw z b S) (.inl none) (mw z b S') := by
  rw [mo_push] at hres
  refine XC.ofV (by decide +kernel) rfl ?_
  intro p e s m below meth c X hnm
  refine V.lvs (lv' := [(0, .ref (b 0)), (1, .int (nI p1)), (2, .int (nI p2))]) rfl ?_
  refine V.aload_n X d_Mo_push_0 rfl ?_
  refine g_Mo_doing X k_Mo_108 d_Mo_push_1 ?_
  refine V.bipush (v := nI 10) X d_Mo_push_4 (by decide +kernel) ?_
  refine V.aload_n X d_Mo_push_6 rfl ?_
  refine g_Mo_frame (x := (r_frame S)) X rfl k_Mo_288 d_Mo_push_7 ?_
  obtain ⟨t1, qt1, hres⟩ := hres
  refine V.top (v' := .int (nI t1)) (by rw [qt1]; rfl) ?_
  refine V.imul X d_Mo_push_10 (pk_mul _ _) ?_
  refine V.aload_n X d_Mo_push_11 rfl ?_
  refine g_Mo_level X k_Mo_105 d_Mo_push_12 ?_
  refine V.aload_n X d_Mo_push_15 rfl ?_
  refine g_Mo_frame (x := (r_frame S)) X rfl k_Mo_288 d_Mo_push_16 ?_
  refine V.top (v' := .int (nI t1)) (by rw [qt1]; rfl) ?_
  obtain ⟨g2, hres⟩ := hres
  refine l_Mo_level (x := ((r_level S) t1)) X g2 (congrFun rfl _) d_Mo_push_19 ?_
  refine V.iadd X d_Mo_push_20 (nI_add _ _) ?_
  refine V.iload_n X d_Mo_push_21 rfl ?_
  obtain ⟨g3, hres⟩ := hres
  refine s_Mo_doing (g := (r_doing S)) X g3 rfl d_Mo_push_22 ?_
  refine V.aload_n X d_Mo_push_23 rfl ?_
  refine g_Mo_doneAt X k_Mo_111 d_Mo_push_24 ?_
  refine V.bipush (v := nI 10) X d_Mo_push_27 (by decide +kernel) ?_
  refine V.aload_n X d_Mo_push_29 rfl ?_
  refine g_Mo_frame (x := (r_frame S)) X (rw_frame_doing _ _) k_Mo_288 d_Mo_push_30 ?_
  refine V.top (v' := .int (nI t1)) (by rw [qt1]; rfl) ?_
  refine V.imul X d_Mo_push_33 (pk_mul _ _) ?_
  refine V.aload_n X d_Mo_push_34 rfl ?_
  refine g_Mo_level X k_Mo_105 d_Mo_push_35 ?_
  refine V.aload_n X d_Mo_push_38 rfl ?_
  refine g_Mo_frame (x := (r_frame S)) X (rw_frame_doing _ _) k_Mo_288 d_Mo_push_39 ?_
  refine V.top (v' := .int (nI t1)) (by rw [qt1]; rfl) ?_
  obtain ⟨g4, hres⟩ := hres
  refine l_Mo_level (x := ((r_level S) t1)) X g4 (congrFun (rw_level_doing _ _) _) d_Mo_push_42 ?_
  refine V.iadd X d_Mo_push_43 (nI_add _ _) ?_
  refine V.iload_n X d_Mo_push_44 rfl ?_
  obtain ⟨g5, hres⟩ := hres
  refine s_Mo_doneAt (g := (r_doneAt S)) X g5 (rw_doneAt_doing _ _) d_Mo_push_45 ?_
  refine V.aload_n X d_Mo_push_46 rfl ?_
  refine g_Mo_level X k_Mo_105 d_Mo_push_47 ?_
  refine V.aload_n X d_Mo_push_50 rfl ?_
  refine g_Mo_frame (x := (r_frame S)) X (Eq.trans (rw_frame_doneAt _ _) (rw_frame_doing _ _)) k_Mo_288 d_Mo_push_51 ?_
  refine V.top (v' := .int (nI t1)) (by rw [qt1]; rfl) ?_
  refine V.dup2 X d_Mo_push_54 rfl rfl ?_
  obtain ⟨g6, hres⟩ := hres
  refine l_Mo_level (x := ((r_level S) t1)) X g6 (congrFun (Eq.trans (rw_level_doneAt _ _) (rw_level_doing _ _)) _) d_Mo_push_55 ?_
  refine V.iconst (v := nI 1) X d_Mo_push_56 (by decide +kernel) ?_
  refine V.iadd X d_Mo_push_57 (nI_add _ _) ?_
  obtain ⟨g7, hres⟩ := hres
  refine s_Mo_level (g := (r_level S)) X g7 (Eq.trans (rw_level_doneAt _ _) (rw_level_doing _ _)) d_Mo_push_58 ?_
  subst hres
  exact V.vret X d_Mo_push_59 rfl rfl
def mo_holds (S : MS) (v : Bool) (S' : MS) : Prop := ∃ v1 S1, mo_evaluate S v1 S1 ∧ ((r_pc S1) < 155 ∧ ((r_failure S1) < 2147483648 ∧ (((r_failure S1) = 0 ∧ (∃ v5 S5, mo_evaluate (w_pc S1 ((r_pc S1) + 1)) v5 S5 ∧ (((r_pKind S1) (r_pc S1)) < 2147483648 ∧ ((((r_pKind S1) (r_pc S1)) = 61 ∧ ((v1 = v5 ∧ (v = true ∧ S' = S5)) ∨ (¬ v1 = v5 ∧ (v = false ∧ S' = S5)))) ∨ (¬ ((r_pKind S1) (r_pc S1)) = 61 ∧ ((((r_pKind S1) (r_pc S1)) = 60 ∧ ((v5 ≤ v1 ∧ (v = false ∧ S' = S5)) ∨ (¬ v5 ≤ v1 ∧ (v = true ∧ S' = S5)))) ∨ (¬ ((r_pKind S1) (r_pc S1)) = 60 ∧ ((v1 ≤ v5 ∧ (v = false ∧ S' = S5)) ∨ (¬ v1 ≤ v5 ∧ (v = true ∧ S' = S5)))))))))) ∨ (¬ (r_failure S1) = 0 ∧ (v = false ∧ S' = (w_pc S1 ((r_pc S1) + 1)))))))
set_option maxHeartbeats 4000000 in
set_option maxRecDepth 100000 in
theorem c_Mo_holds {l : Launch} {z : Zt} {b : Nat → Nat} {S : MS} {v : Bool} {S' : MS} (h : Nat) (hres : mo_holds S v S') : XC l (Gz z) (h + 4) y_Mo_holds b_Mo_holds 4 (some .boolean) [.ref (b 0)] (mw z b S) (.inl (some (.int (bI v)))) (mw z b S') := by
  rw [mo_holds] at hres
  refine XC.ofV (by decide +kernel) rfl ?_
  intro p e s m below meth c X hnm
  refine V.lvs (lv' := [(0, .ref (b 0))]) rfl ?_
  refine V.aload_n X d_Mo_holds_0 rfl ?_
  obtain ⟨v1, S1, x1, hres⟩ := hres
  refine V.callV1 X (c_Mo_evaluate (h + 0) x1) Y_Mo_evaluate k_Mo_318 0 rfl rfl rfl rfl rfl (Rok.lt (by omega)) d_Mo_holds_1 ?_
  refine V.istore_n (lv' := [(0, .ref (b 0)), (1, .int v1)]) X d_Mo_holds_4 (by decide) rfl ?_
  refine V.aload_n X d_Mo_holds_5 rfl ?_
  refine g_Mo_pKind X k_Mo_32 d_Mo_holds_6 ?_
  refine V.aload_n X d_Mo_holds_9 rfl ?_
  refine g_Mo_pc (x := (r_pc S1)) X rfl k_Mo_300 d_Mo_holds_10 ?_
  obtain ⟨g2, hres⟩ := hres
  refine l_Mo_pKind (x := ((r_pKind S1) (r_pc S1))) X g2 (congrFun rfl _) d_Mo_holds_13 ?_
  refine V.istore_n (lv' := [(0, .ref (b 0)), (1, .int v1), (2, .int (nI ((r_pKind S1) (r_pc S1))))]) X d_Mo_holds_14 (by decide) rfl ?_
  refine V.aload_n X d_Mo_holds_15 rfl ?_
  refine V.dup X d_Mo_holds_16 rfl ?_
  refine g_Mo_pc (x := (r_pc S1)) X rfl k_Mo_300 d_Mo_holds_17 ?_
  refine V.iconst (v := nI 1) X d_Mo_holds_20 (by decide +kernel) ?_
  refine V.iadd X d_Mo_holds_21 (nI_add _ _) ?_
  refine p_Mo_pc X k_Mo_300 d_Mo_holds_22 ?_
  refine V.aload_n X d_Mo_holds_25 rfl ?_
  refine g_Mo_failure (x := (r_failure S1)) X (rw_failure_pc _ _) k_Mo_297 d_Mo_holds_26 ?_
  obtain ⟨g4, hres⟩ := hres
  refine V.ifN_eq (tgt := 34) X d_Mo_holds_29 (by decide) (by omega) (fun h29_3 => ?_) (fun h29_3 => ?_)
  · replace hres := or_t hres h29_3
    refine V.aload_n X d_Mo_holds_34 rfl ?_
    obtain ⟨v5, S5, x5, hres⟩ := hres
    refine V.callV1 X (c_Mo_evaluate (h + 0) x5) Y_Mo_evaluate k_Mo_318 0 rfl rfl rfl rfl rfl (Rok.lt (by omega)) d_Mo_holds_35 ?_
    refine V.istore_n (lv' := [(0, .ref (b 0)), (1, .int v1), (2, .int (nI ((r_pKind S1) (r_pc S1)))), (3, .int v5)]) X d_Mo_holds_38 (by decide) rfl ?_
    refine V.iload_n X d_Mo_holds_39 rfl ?_
    refine V.bipush (v := nI 61) X d_Mo_holds_40 (by decide +kernel) ?_
    obtain ⟨g7, hres⟩ := hres
    refine V.cmpN_ne (tgt := 58) X d_Mo_holds_42 (by decide) (by omega) (by omega) (fun h42_6 => ?_) (fun h42_6 => ?_)
    · replace hres := or_f hres h42_6
      refine V.iload_n X d_Mo_holds_58 rfl ?_
      refine V.bipush (v := nI 60) X d_Mo_holds_59 (by decide +kernel) ?_
      refine V.cmpN_ne (tgt := 77) X d_Mo_holds_61 (by decide) (by omega) (by omega) (fun h61_8 => ?_) (fun h61_8 => ?_)
      · replace hres := or_f hres h61_8
        refine V.iload_n X d_Mo_holds_77 rfl ?_
        refine V.iload_n X d_Mo_holds_78 rfl ?_
        refine V.icmp_le (tgt := 86) X d_Mo_holds_79 (by decide) (fun h79_9 => ?_) (fun h79_9 => ?_)
        · replace hres := or_t hres h79_9
          refine V.iconst (v := nI 0) X d_Mo_holds_86 (by decide +kernel) ?_
          obtain ⟨rfl, rfl⟩ := hres
          exact V.zret X d_Mo_holds_87 (by first | exact Or.inl rfl | exact Or.inr rfl | (unfold bI; split; exact Or.inr rfl; exact Or.inl rfl)) rfl rfl
        · replace hres := or_f hres h79_9
          refine V.iconst (v := nI 1) X d_Mo_holds_82 (by decide +kernel) ?_
          refine V.goto (tgt := 87) X d_Mo_holds_83 (by decide) ?_
          obtain ⟨rfl, rfl⟩ := hres
          exact V.zret X d_Mo_holds_87 (by first | exact Or.inl rfl | exact Or.inr rfl | (unfold bI; split; exact Or.inr rfl; exact Or.inl rfl)) rfl rfl
      · replace hres := or_t hres h61_8
        refine V.iload_n X d_Mo_holds_64 rfl ?_
        refine V.iload_n X d_Mo_holds_65 rfl ?_
        refine V.icmp_ge (tgt := 73) X d_Mo_holds_66 (by decide) (fun h66_10 => ?_) (fun h66_10 => ?_)
        · replace hres := or_t hres h66_10
          refine V.iconst (v := nI 0) X d_Mo_holds_73 (by decide +kernel) ?_
          refine V.goto (tgt := 87) X d_Mo_holds_74 (by decide) ?_
          obtain ⟨rfl, rfl⟩ := hres
          exact V.zret X d_Mo_holds_87 (by first | exact Or.inl rfl | exact Or.inr rfl | (unfold bI; split; exact Or.inr rfl; exact Or.inl rfl)) rfl rfl
        · replace hres := or_f hres h66_10
          refine V.iconst (v := nI 1) X d_Mo_holds_69 (by decide +kernel) ?_
          refine V.goto (tgt := 87) X d_Mo_holds_70 (by decide) ?_
          obtain ⟨rfl, rfl⟩ := hres
          exact V.zret X d_Mo_holds_87 (by first | exact Or.inl rfl | exact Or.inr rfl | (unfold bI; split; exact Or.inr rfl; exact Or.inl rfl)) rfl rfl
    · replace hres := or_t hres h42_6
      refine V.iload_n X d_Mo_holds_45 rfl ?_
      refine V.iload_n X d_Mo_holds_46 rfl ?_
      refine V.icmp_ne (tgt := 54) X d_Mo_holds_47 (by decide) (fun h47_11 => ?_) (fun h47_11 => ?_)
      · replace hres := or_f hres h47_11
        refine V.iconst (v := nI 0) X d_Mo_holds_54 (by decide +kernel) ?_
        refine V.goto (tgt := 87) X d_Mo_holds_55 (by decide) ?_
        obtain ⟨rfl, rfl⟩ := hres
        exact V.zret X d_Mo_holds_87 (by first | exact Or.inl rfl | exact Or.inr rfl | (unfold bI; split; exact Or.inr rfl; exact Or.inl rfl)) rfl rfl
      · replace hres := or_t hres h47_11
        refine V.iconst (v := nI 1) X d_Mo_holds_50 (by decide +kernel) ?_
        refine V.goto (tgt := 87) X d_Mo_holds_51 (by decide) ?_
        obtain ⟨rfl, rfl⟩ := hres
        exact V.zret X d_Mo_holds_87 (by first | exact Or.inl rfl | exact Or.inr rfl | (unfold bI; split; exact Or.inr rfl; exact Or.inl rfl)) rfl rfl
  · replace hres := or_f hres h29_3
    refine V.iconst (v := nI 0) X d_Mo_holds_32 (by decide +kernel) ?_
    obtain ⟨rfl, rfl⟩ := hres
    exact V.zret X d_Mo_holds_33 (by first | exact Or.inl rfl | exact Or.inr rfl | (unfold bI; split; exact Or.inr rfl; exact Or.inl rfl)) rfl rfl
def mo_enterCall_go (p1 : Nat) : Nat → Nat → Nat → Nat → Nat → MS → MS → Prop
  | 0, _, _, _, _, _, _ => False
  | n + 1, tag, x2N, x3N, x4N, S, S' => match tag with
    | 0 => x3N < 2147483648 ∧ (x2N < 2147483648 ∧ ((x2N ≤ x3N ∧ ((x2N = 0 ∧ ((r_failure S) < 2147483648 ∧ (((r_failure S) = 0 ∧ (∃ t8, (r_frame S) = some t8 ∧ (t8 < 2147483648 ∧ ((t8 = 10 ∧ (S' = (w_failure S 4))) ∨ (¬ t8 = 10 ∧ (p1 < 18 ∧ (∃ v13 S13, mo_runOf ((r_pHome S) p1) S v13 S13 ∧ (∃ t14, (r_frame S13) = some t14 ∧ ((t14 + 1) < 2147483648 ∧ ((r_greatest S13) < 2147483648 ∧ (((t14 + 1) ≤ (r_greatest S13) ∧ (p1 < 18 ∧ ((t14 + 1) < 11 ∧ ((t14 + 1) < 11 ∧ ((t14 + 1) < 11 ∧ ((t14 + 1) < 11 ∧ (mo_enterCall_go p1 n 1 x2N 0 0 (w_level (w_back (w_outer (w_blockOf (w_frame S13 (some (t14 + 1))) (va_up (r_blockOf S13) (t14 + 1) ((r_pOwn S13) p1))) (va_up (r_outer S13) (t14 + 1) (some v13))) (va_up (r_back S13) (t14 + 1) (r_pc S13))) (va_up (r_level S13) (t14 + 1) 0)) S'))))))) ∨ (¬ (t14 + 1) ≤ (r_greatest S13) ∧ (p1 < 18 ∧ ((t14 + 1) < 11 ∧ ((t14 + 1) < 11 ∧ ((t14 + 1) < 11 ∧ ((t14 + 1) < 11 ∧ (mo_enterCall_go p1 n 1 x2N 0 0 (w_level (w_back (w_outer (w_blockOf (w_greatest (w_frame S13 (some (t14 + 1))) (t14 + 1)) (va_up (r_blockOf S13) (t14 + 1) ((r_pOwn S13) p1))) (va_up (r_outer S13) (t14 + 1) (some v13))) (va_up (r_back S13) (t14 + 1) (r_pc S13))) (va_up (r_level S13) (t14 + 1) 0)) S')))))))))))))))))) ∨ (¬ (r_failure S) = 0 ∧ (S' = S))))) ∨ (¬ x2N = 0 ∧ ((r_failure S) < 2147483648 ∧ (((r_failure S) = 0 ∧ (∃ t32, (r_frame S) = some t32 ∧ (t32 < 2147483648 ∧ ((t32 = 10 ∧ (S' = (w_failure (w_pc S ((r_pc S) + 1)) 4))) ∨ (¬ t32 = 10 ∧ (p1 < 18 ∧ (∃ v37 S37, mo_runOf ((r_pHome S) p1) (w_pc S ((r_pc S) + 1)) v37 S37 ∧ (∃ t38, (r_frame S37) = some t38 ∧ ((t38 + 1) < 2147483648 ∧ ((r_greatest S37) < 2147483648 ∧ (((t38 + 1) ≤ (r_greatest S37) ∧ (p1 < 18 ∧ ((t38 + 1) < 11 ∧ ((t38 + 1) < 11 ∧ ((t38 + 1) < 11 ∧ ((t38 + 1) < 11 ∧ (mo_enterCall_go p1 n 1 x2N 0 0 (w_level (w_back (w_outer (w_blockOf (w_frame S37 (some (t38 + 1))) (va_up (r_blockOf S37) (t38 + 1) ((r_pOwn S37) p1))) (va_up (r_outer S37) (t38 + 1) (some v37))) (va_up (r_back S37) (t38 + 1) (r_pc S37))) (va_up (r_level S37) (t38 + 1) 0)) S'))))))) ∨ (¬ (t38 + 1) ≤ (r_greatest S37) ∧ (p1 < 18 ∧ ((t38 + 1) < 11 ∧ ((t38 + 1) < 11 ∧ ((t38 + 1) < 11 ∧ ((t38 + 1) < 11 ∧ (mo_enterCall_go p1 n 1 x2N 0 0 (w_level (w_back (w_outer (w_blockOf (w_greatest (w_frame S37 (some (t38 + 1))) (t38 + 1)) (va_up (r_blockOf S37) (t38 + 1) ((r_pOwn S37) p1))) (va_up (r_outer S37) (t38 + 1) (some v37))) (va_up (r_back S37) (t38 + 1) (r_pc S37))) (va_up (r_level S37) (t38 + 1) 0)) S')))))))))))))))))) ∨ (¬ (r_failure S) = 0 ∧ (S' = (w_pc S ((r_pc S) + 1))))))))) ∨ (¬ x2N ≤ x3N ∧ ((r_failure S) < 2147483648 ∧ (((r_failure S) = 0 ∧ (((p1 + 1) + x3N) < 18 ∧ (((r_pSort S) ((p1 + 1) + x3N)) < 2147483648 ∧ ((((r_pSort S) ((p1 + 1) + x3N)) = 2 ∧ (((r_pc S) + 1) < 155 ∧ (∃ v66 S66, mo_place ((r_pMeans S) ((r_pc S) + 1)) (w_pc S ((r_pc S) + 1)) v66 S66 ∧ (x3N < 3 ∧ (mo_enterCall_go p1 n 0 x2N (x3N + 1) 0 (w_pc (w_given S66 (upd (r_given S66) x3N (nI v66))) ((r_pc S66) + 1)) S'))))) ∨ (¬ ((r_pSort S) ((p1 + 1) + x3N)) = 2 ∧ (∃ v63 S63, mo_evaluate (w_pc S ((r_pc S) + 1)) v63 S63 ∧ (x3N < 3 ∧ (mo_enterCall_go p1 n 0 x2N (x3N + 1) 0 (w_given S63 (upd (r_given S63) x3N v63)) S')))))))) ∨ (¬ (r_failure S) = 0 ∧ ((x2N = 0 ∧ (S' = S)) ∨ (¬ x2N = 0 ∧ (S' = (w_pc S ((r_pc S) + 1)))))))))))
    | 1 => x4N < 2147483648 ∧ ((12 ≤ x4N ∧ (mo_enterCall_go p1 n 2 x2N 0 0 S S')) ∨ (¬ 12 ≤ x4N ∧ (∃ t70, (r_frame S) = some t70 ∧ (((12 * t70) + x4N) < 132 ∧ (mo_enterCall_go p1 n 1 x2N 0 (x4N + 1) (w_cell S (upd (r_cell S) ((12 * t70) + x4N) (nI 0))) S')))))
    | 2 => x4N < 2147483648 ∧ (x2N < 2147483648 ∧ ((x2N ≤ x4N ∧ (p1 < 18 ∧ (((r_pOwn S) p1) < 8 ∧ (S' = (w_pc S ((r_pBody S) ((r_pOwn S) p1))))))) ∨ (¬ x2N ≤ x4N ∧ (∃ t77, (r_frame S) = some t77 ∧ (∃ v78 S78, mo_slot ((p1 + 1) + x4N) S v78 S78 ∧ (x4N < 3 ∧ (((12 * t77) + v78) < 132 ∧ (x4N < 3 ∧ (((12 * t77) + v78) < 132 ∧ (mo_enterCall_go p1 n 2 x2N 0 (x4N + 1) (w_stands (w_cell S78 (upd (r_cell S78) ((12 * t77) + v78) ((r_given S78) x4N))) (va_up (r_stands S78) ((12 * t77) + v78) (i32n ((r_given S78) x4N)))) S'))))))))))
    | _ => False
def mo_enterCall (p1 : Nat) (S : MS) (S' : MS) : Prop := p1 < 18 ∧ (∃ n, mo_enterCall_go p1 n 0 ((r_pWants S) p1) 0 0 S S')
set_option maxHeartbeats 4000000 in
set_option maxRecDepth 100000 in
theorem c_Mo_enterCall {l : Launch} {z : Zt} {b : Nat → Nat} {S : MS} {p1 : Nat} {S' : MS} (h : Nat) (hres : mo_enterCall p1 S S') : XC l (Gz z) (h + 4) y_Mo_enterCall b_Mo_enterCall 6 none [.ref (b 0), .int (nI p1)] (mw z b S) (.inl none) (mw z b S') := by
  rw [mo_enterCall] at hres
  refine XC.ofV (by decide +kernel) rfl ?_
  intro p e s m below meth c X hnm
  have go : ∀ n : Nat, (∀ (x2N : Nat) (x3N : Nat) (S : MS), mo_enterCall_go p1 n 0 x2N x3N 0 S S' → V p l e (Rm (h + 4)) s m ([.ref (b 0), .int (nI p1)] : List Value).toArray below meth c (Gz z) 6 0 0 (XE below (Gz z) (.inl none) (mw z b S') ([.ref (b 0), .int (nI p1)] : List Value).toArray s) (mw z b S) 9 [(0, .ref (b 0)), (1, .int (nI p1)), (2, .int (nI x2N)), (3, .int (nI x3N))] []) ∧ (∀ (x2N : Nat) (x4N : Nat) (S : MS), mo_enterCall_go p1 n 1 x2N 0 x4N S S' → V p l e (Rm (h + 4)) s m ([.ref (b 0), .int (nI p1)] : List Value).toArray below meth c (Gz z) 6 0 0 (XE below (Gz z) (.inl none) (mw z b S') ([.ref (b 0), .int (nI p1)] : List Value).toArray s) (mw z b S) 227 [(0, .ref (b 0)), (1, .int (nI p1)), (2, .int (nI x2N)), (4, .int (nI x4N))] []) ∧ (∀ (x2N : Nat) (x4N : Nat) (S : MS), mo_enterCall_go p1 n 2 x2N 0 x4N S S' → V p l e (Rm (h + 4)) s m ([.ref (b 0), .int (nI p1)] : List Value).toArray below meth c (Gz z) 6 0 0 (XE below (Gz z) (.inl none) (mw z b S') ([.ref (b 0), .int (nI p1)] : List Value).toArray s) (mw z b S) 259 [(0, .ref (b 0)), (1, .int (nI p1)), (2, .int (nI x2N)), (4, .int (nI x4N))] []) := by
    intro n
    induction n with
    | zero =>
      refine ⟨?_, ?_, ?_⟩
      · intro x2N x3N S hres
        exact absurd hres (by simp only [mo_enterCall_go, not_false_eq_true])
      · intro x2N x4N S hres
        exact absurd hres (by simp only [mo_enterCall_go, not_false_eq_true])
      · intro x2N x4N S hres
        exact absurd hres (by simp only [mo_enterCall_go, not_false_eq_true])
    | succ n ih =>
      refine ⟨?_, ?_, ?_⟩
      · intro x2N x3N S hres
        rw [mo_enterCall_go] at hres
        try dsimp only at hres
        refine V.iload_n X d_Mo_enterCall_9 rfl ?_
        refine V.iload_n X d_Mo_enterCall_10 rfl ?_
        obtain ⟨g2, hres⟩ := hres
        obtain ⟨g3, hres⟩ := hres
        refine V.cmpN_ge (tgt := 93) X d_Mo_enterCall_11 (by decide) (by omega) (by omega) (fun h11_1 => ?_) (fun h11_1 => ?_)
        · replace hres := or_t hres h11_1
          refine V.iload_n X d_Mo_enterCall_93 rfl ?_
          refine V.ifN_le (tgt := 107) X d_Mo_enterCall_94 (by decide) (by omega) (fun h94_4 => ?_) (fun h94_4 => ?_)
          · replace hres := or_t hres h94_4
            refine V.aload_n X d_Mo_enterCall_107 rfl ?_
            refine g_Mo_failure (x := (r_failure S)) X rfl k_Mo_297 d_Mo_enterCall_108 ?_
            obtain ⟨g6, hres⟩ := hres
            refine V.ifN_ne (tgt := 128) X d_Mo_enterCall_111 (by decide) (by omega) (fun h111_5 => ?_) (fun h111_5 => ?_)
            · replace hres := or_f hres h111_5
              refine V.aload_n X d_Mo_enterCall_128 rfl ?_
              refine g_Mo_failure (x := (r_failure S)) X rfl k_Mo_297 d_Mo_enterCall_129 ?_
              refine V.ifN_eq (tgt := 136) X d_Mo_enterCall_132 (by decide) (by omega) (fun h => absurd h (by omega)) (fun _ => ?_)
              subst hres
              exact V.vret X d_Mo_enterCall_135 rfl rfl
            · replace hres := or_t hres h111_5
              refine V.aload_n X d_Mo_enterCall_114 rfl ?_
              refine g_Mo_frame (x := (r_frame S)) X rfl k_Mo_288 d_Mo_enterCall_115 ?_
              obtain ⟨t8, qt8, hres⟩ := hres
              refine V.top (v' := .int (nI t8)) (by rw [qt8]; rfl) ?_
              refine V.bipush (v := nI 10) X d_Mo_enterCall_118 (by decide +kernel) ?_
              obtain ⟨g10, hres⟩ := hres
              refine V.cmpN_ne (tgt := 128) X d_Mo_enterCall_120 (by decide) (by omega) (by omega) (fun h120_9 => ?_) (fun h120_9 => ?_)
              · replace hres := or_f hres h120_9
                refine V.aload_n X d_Mo_enterCall_128 rfl ?_
                refine g_Mo_failure (x := (r_failure S)) X rfl k_Mo_297 d_Mo_enterCall_129 ?_
                refine V.ifN_eq (tgt := 136) X d_Mo_enterCall_132 (by decide) (by omega) (fun _ => ?_) (fun h => absurd h (by omega))
                refine V.aload_n X d_Mo_enterCall_136 rfl ?_
                refine V.aload_n X d_Mo_enterCall_137 rfl ?_
                refine g_Mo_pHome X k_Mo_72 d_Mo_enterCall_138 ?_
                refine V.iload_n X d_Mo_enterCall_141 rfl ?_
                obtain ⟨g12, hres⟩ := hres
                refine l_Mo_pHome (x := ((r_pHome S) p1)) X g12 (congrFun rfl _) d_Mo_enterCall_142 ?_
                obtain ⟨v13, S13, x13, hres⟩ := hres
                refine V.callV1 X (c_Mo_runOf (h + 2) x13) Y_Mo_runOf k_Mo_291 0 rfl rfl rfl rfl rfl (Rok.lt (by omega)) d_Mo_enterCall_143 ?_
                refine V.istore_n (lv' := [(0, .ref (b 0)), (1, .int (nI p1)), (2, .int (nI x2N)), (3, .int (nI v13))]) X d_Mo_enterCall_146 (by decide) rfl ?_
                refine V.aload_n X d_Mo_enterCall_147 rfl ?_
                refine V.dup X d_Mo_enterCall_148 rfl ?_
                refine g_Mo_frame (x := (r_frame S13)) X rfl k_Mo_288 d_Mo_enterCall_149 ?_
                obtain ⟨t14, qt14, hres⟩ := hres
                refine V.top (v' := .int (nI t14)) (by rw [qt14]; rfl) ?_
                refine V.iconst (v := nI 1) X d_Mo_enterCall_152 (by decide +kernel) ?_
                refine V.iadd X d_Mo_enterCall_153 (nI_add _ _) ?_
                refine V.top (v' := .int (fI (some (t14 + 1)))) rfl ?_
                refine p_Mo_frame X k_Mo_288 d_Mo_enterCall_154 ?_
                refine V.aload_n X d_Mo_enterCall_157 rfl ?_
                refine g_Mo_frame (x := (some (t14 + 1))) X (rw_frame_frame _ _) k_Mo_288 d_Mo_enterCall_158 ?_
                refine V.top (v' := .int (nI (t14 + 1))) rfl ?_
                refine V.aload_n X d_Mo_enterCall_161 rfl ?_
                refine g_Mo_greatest (x := (r_greatest S13)) X (rw_greatest_frame _ _) k_Mo_321 d_Mo_enterCall_162 ?_
                obtain ⟨g16, hres⟩ := hres
                obtain ⟨g17, hres⟩ := hres
                refine V.cmpN_le (tgt := 176) X d_Mo_enterCall_165 (by decide) (by omega) (by omega) (fun h165_15 => ?_) (fun h165_15 => ?_)
                · replace hres := or_t hres h165_15
                  refine V.aload_n X d_Mo_enterCall_176 rfl ?_
                  refine g_Mo_blockOf X k_Mo_96 d_Mo_enterCall_177 ?_
                  refine V.aload_n X d_Mo_enterCall_180 rfl ?_
                  refine g_Mo_frame (x := (some (t14 + 1))) X (rw_frame_frame _ _) k_Mo_288 d_Mo_enterCall_181 ?_
                  refine V.top (v' := .int (nI (t14 + 1))) rfl ?_
                  refine V.aload_n X d_Mo_enterCall_184 rfl ?_
                  refine g_Mo_pOwn X k_Mo_75 d_Mo_enterCall_185 ?_
                  refine V.iload_n X d_Mo_enterCall_188 rfl ?_
                  obtain ⟨g18, hres⟩ := hres
                  refine l_Mo_pOwn (x := ((r_pOwn S13) p1)) X g18 (congrFun (rw_pOwn_frame _ _) _) d_Mo_enterCall_189 ?_
                  obtain ⟨g19, hres⟩ := hres
                  refine s_Mo_blockOf (g := (r_blockOf S13)) X g19 (rw_blockOf_frame _ _) d_Mo_enterCall_190 ?_
                  refine V.aload_n X d_Mo_enterCall_191 rfl ?_
                  refine g_Mo_outer X k_Mo_99 d_Mo_enterCall_192 ?_
                  refine V.aload_n X d_Mo_enterCall_195 rfl ?_
                  refine g_Mo_frame (x := (some (t14 + 1))) X (Eq.trans (rw_frame_blockOf _ _) (rw_frame_frame _ _)) k_Mo_288 d_Mo_enterCall_196 ?_
                  refine V.top (v' := .int (nI (t14 + 1))) rfl ?_
                  refine V.iload_n X d_Mo_enterCall_199 rfl ?_
                  obtain ⟨g20, hres⟩ := hres
                  refine V.top (v' := .int (fI (some v13))) rfl ?_
                  refine s_Mo_outer (g := (r_outer S13)) X g20 (Eq.trans (rw_outer_blockOf _ _) (rw_outer_frame _ _)) d_Mo_enterCall_200 ?_
                  refine V.aload_n X d_Mo_enterCall_201 rfl ?_
                  refine g_Mo_back X k_Mo_102 d_Mo_enterCall_202 ?_
                  refine V.aload_n X d_Mo_enterCall_205 rfl ?_
                  refine g_Mo_frame (x := (some (t14 + 1))) X (Eq.trans (rw_frame_outer _ _) (Eq.trans (rw_frame_blockOf _ _) (rw_frame_frame _ _))) k_Mo_288 d_Mo_enterCall_206 ?_
                  refine V.top (v' := .int (nI (t14 + 1))) rfl ?_
                  refine V.aload_n X d_Mo_enterCall_209 rfl ?_
                  refine g_Mo_pc (x := (r_pc S13)) X (Eq.trans (rw_pc_outer _ _) (Eq.trans (rw_pc_blockOf _ _) (rw_pc_frame _ _))) k_Mo_300 d_Mo_enterCall_210 ?_
                  obtain ⟨g21, hres⟩ := hres
                  refine s_Mo_back (g := (r_back S13)) X g21 (Eq.trans (rw_back_outer _ _) (Eq.trans (rw_back_blockOf _ _) (rw_back_frame _ _))) d_Mo_enterCall_213 ?_
                  refine V.aload_n X d_Mo_enterCall_214 rfl ?_
                  refine g_Mo_level X k_Mo_105 d_Mo_enterCall_215 ?_
                  refine V.aload_n X d_Mo_enterCall_218 rfl ?_
                  refine g_Mo_frame (x := (some (t14 + 1))) X (Eq.trans (rw_frame_back _ _) (Eq.trans (rw_frame_outer _ _) (Eq.trans (rw_frame_blockOf _ _) (rw_frame_frame _ _)))) k_Mo_288 d_Mo_enterCall_219 ?_
                  refine V.top (v' := .int (nI (t14 + 1))) rfl ?_
                  refine V.iconst (v := nI 0) X d_Mo_enterCall_222 (by decide +kernel) ?_
                  obtain ⟨g22, hres⟩ := hres
                  refine s_Mo_level (g := (r_level S13)) X g22 (Eq.trans (rw_level_back _ _) (Eq.trans (rw_level_outer _ _) (Eq.trans (rw_level_blockOf _ _) (rw_level_frame _ _)))) d_Mo_enterCall_223 ?_
                  refine V.iconst (v := nI 0) X d_Mo_enterCall_224 (by decide +kernel) ?_
                  refine V.istore (lv' := [(0, .ref (b 0)), (1, .int (nI p1)), (2, .int (nI x2N)), (3, .int (nI v13)), (4, .int (nI 0))]) X d_Mo_enterCall_225 (by decide) rfl ?_
                  refine V.pick [0, 1, 2, 4] rfl ?_
                  refine V.lvs (lv' := [(0, .ref (b 0)), (1, .int (nI p1)), (2, .int (nI x2N)), (4, .int (nI 0))]) rfl ?_
                  exact ih.2.1 _ _ (w_level (w_back (w_outer (w_blockOf (w_frame S13 (some (t14 + 1))) (va_up (r_blockOf S13) (t14 + 1) ((r_pOwn S13) p1))) (va_up (r_outer S13) (t14 + 1) (some v13))) (va_up (r_back S13) (t14 + 1) (r_pc S13))) (va_up (r_level S13) (t14 + 1) 0)) hres
                · replace hres := or_f hres (Nat.not_le.mpr h165_15)
                  refine V.aload_n X d_Mo_enterCall_168 rfl ?_
                  refine V.aload_n X d_Mo_enterCall_169 rfl ?_
                  refine g_Mo_frame (x := (some (t14 + 1))) X (rw_frame_frame _ _) k_Mo_288 d_Mo_enterCall_170 ?_
                  refine V.top (v' := .int (nI (t14 + 1))) rfl ?_
                  refine p_Mo_greatest X k_Mo_321 d_Mo_enterCall_173 ?_
                  refine V.aload_n X d_Mo_enterCall_176 rfl ?_
                  refine g_Mo_blockOf X k_Mo_96 d_Mo_enterCall_177 ?_
                  refine V.aload_n X d_Mo_enterCall_180 rfl ?_
                  refine g_Mo_frame (x := (some (t14 + 1))) X (Eq.trans (rw_frame_greatest _ _) (rw_frame_frame _ _)) k_Mo_288 d_Mo_enterCall_181 ?_
                  refine V.top (v' := .int (nI (t14 + 1))) rfl ?_
                  refine V.aload_n X d_Mo_enterCall_184 rfl ?_
                  refine g_Mo_pOwn X k_Mo_75 d_Mo_enterCall_185 ?_
                  refine V.iload_n X d_Mo_enterCall_188 rfl ?_
                  obtain ⟨g23, hres⟩ := hres
                  refine l_Mo_pOwn (x := ((r_pOwn S13) p1)) X g23 (congrFun (Eq.trans (rw_pOwn_greatest _ _) (rw_pOwn_frame _ _)) _) d_Mo_enterCall_189 ?_
                  obtain ⟨g24, hres⟩ := hres
                  refine s_Mo_blockOf (g := (r_blockOf S13)) X g24 (Eq.trans (rw_blockOf_greatest _ _) (rw_blockOf_frame _ _)) d_Mo_enterCall_190 ?_
                  refine V.aload_n X d_Mo_enterCall_191 rfl ?_
                  refine g_Mo_outer X k_Mo_99 d_Mo_enterCall_192 ?_
                  refine V.aload_n X d_Mo_enterCall_195 rfl ?_
                  refine g_Mo_frame (x := (some (t14 + 1))) X (Eq.trans (rw_frame_blockOf _ _) (Eq.trans (rw_frame_greatest _ _) (rw_frame_frame _ _))) k_Mo_288 d_Mo_enterCall_196 ?_
                  refine V.top (v' := .int (nI (t14 + 1))) rfl ?_
                  refine V.iload_n X d_Mo_enterCall_199 rfl ?_
                  obtain ⟨g25, hres⟩ := hres
                  refine V.top (v' := .int (fI (some v13))) rfl ?_
                  refine s_Mo_outer (g := (r_outer S13)) X g25 (Eq.trans (rw_outer_blockOf _ _) (Eq.trans (rw_outer_greatest _ _) (rw_outer_frame _ _))) d_Mo_enterCall_200 ?_
                  refine V.aload_n X d_Mo_enterCall_201 rfl ?_
                  refine g_Mo_back X k_Mo_102 d_Mo_enterCall_202 ?_
                  refine V.aload_n X d_Mo_enterCall_205 rfl ?_
                  refine g_Mo_frame (x := (some (t14 + 1))) X (Eq.trans (rw_frame_outer _ _) (Eq.trans (rw_frame_blockOf _ _) (Eq.trans (rw_frame_greatest _ _) (rw_frame_frame _ _)))) k_Mo_288 d_Mo_enterCall_206 ?_
                  refine V.top (v' := .int (nI (t14 + 1))) rfl ?_
                  refine V.aload_n X d_Mo_enterCall_209 rfl ?_
                  refine g_Mo_pc (x := (r_pc S13)) X (Eq.trans (rw_pc_outer _ _) (Eq.trans (rw_pc_blockOf _ _) (Eq.trans (rw_pc_greatest _ _) (rw_pc_frame _ _)))) k_Mo_300 d_Mo_enterCall_210 ?_
                  obtain ⟨g26, hres⟩ := hres
                  refine s_Mo_back (g := (r_back S13)) X g26 (Eq.trans (rw_back_outer _ _) (Eq.trans (rw_back_blockOf _ _) (Eq.trans (rw_back_greatest _ _) (rw_back_frame _ _)))) d_Mo_enterCall_213 ?_
                  refine V.aload_n X d_Mo_enterCall_214 rfl ?_
                  refine g_Mo_level X k_Mo_105 d_Mo_enterCall_215 ?_
                  refine V.aload_n X d_Mo_enterCall_218 rfl ?_
                  refine g_Mo_frame (x := (some (t14 + 1))) X (Eq.trans (rw_frame_back _ _) (Eq.trans (rw_frame_outer _ _) (Eq.trans (rw_frame_blockOf _ _) (Eq.trans (rw_frame_greatest _ _) (rw_frame_frame _ _))))) k_Mo_288 d_Mo_enterCall_219 ?_
                  refine V.top (v' := .int (nI (t14 + 1))) rfl ?_
                  refine V.iconst (v := nI 0) X d_Mo_enterCall_222 (by decide +kernel) ?_
                  obtain ⟨g27, hres⟩ := hres
                  refine s_Mo_level (g := (r_level S13)) X g27 (Eq.trans (rw_level_back _ _) (Eq.trans (rw_level_outer _ _) (Eq.trans (rw_level_blockOf _ _) (Eq.trans (rw_level_greatest _ _) (rw_level_frame _ _))))) d_Mo_enterCall_223 ?_
                  refine V.iconst (v := nI 0) X d_Mo_enterCall_224 (by decide +kernel) ?_
                  refine V.istore (lv' := [(0, .ref (b 0)), (1, .int (nI p1)), (2, .int (nI x2N)), (3, .int (nI v13)), (4, .int (nI 0))]) X d_Mo_enterCall_225 (by decide) rfl ?_
                  refine V.pick [0, 1, 2, 4] rfl ?_
                  refine V.lvs (lv' := [(0, .ref (b 0)), (1, .int (nI p1)), (2, .int (nI x2N)), (4, .int (nI 0))]) rfl ?_
                  exact ih.2.1 _ _ (w_level (w_back (w_outer (w_blockOf (w_greatest (w_frame S13 (some (t14 + 1))) (t14 + 1)) (va_up (r_blockOf S13) (t14 + 1) ((r_pOwn S13) p1))) (va_up (r_outer S13) (t14 + 1) (some v13))) (va_up (r_back S13) (t14 + 1) (r_pc S13))) (va_up (r_level S13) (t14 + 1) 0)) hres
              · replace hres := or_t hres h120_9
                refine V.aload_n X d_Mo_enterCall_123 rfl ?_
                refine V.iconst (v := nI 4) X d_Mo_enterCall_124 (by decide +kernel) ?_
                refine p_Mo_failure X k_Mo_297 d_Mo_enterCall_125 ?_
                refine V.aload_n X d_Mo_enterCall_128 rfl ?_
                refine g_Mo_failure (x := 4) X (rw_failure_failure _ _) k_Mo_297 d_Mo_enterCall_129 ?_
                refine V.ifN_eq (tgt := 136) X d_Mo_enterCall_132 (by decide) (by decide) (fun h => absurd h (by decide)) (fun _ => ?_)
                subst hres
                exact V.vret X d_Mo_enterCall_135 rfl rfl
          · replace hres := or_f hres h94_4
            refine V.aload_n X d_Mo_enterCall_97 rfl ?_
            refine V.dup X d_Mo_enterCall_98 rfl ?_
            refine g_Mo_pc (x := (r_pc S)) X rfl k_Mo_300 d_Mo_enterCall_99 ?_
            refine V.iconst (v := nI 1) X d_Mo_enterCall_102 (by decide +kernel) ?_
            refine V.iadd X d_Mo_enterCall_103 (nI_add _ _) ?_
            refine p_Mo_pc X k_Mo_300 d_Mo_enterCall_104 ?_
            refine V.aload_n X d_Mo_enterCall_107 rfl ?_
            refine g_Mo_failure (x := (r_failure S)) X (rw_failure_pc _ _) k_Mo_297 d_Mo_enterCall_108 ?_
            obtain ⟨g30, hres⟩ := hres
            refine V.ifN_ne (tgt := 128) X d_Mo_enterCall_111 (by decide) (by omega) (fun h111_29 => ?_) (fun h111_29 => ?_)
            · replace hres := or_f hres h111_29
              refine V.aload_n X d_Mo_enterCall_128 rfl ?_
              refine g_Mo_failure (x := (r_failure S)) X (rw_failure_pc _ _) k_Mo_297 d_Mo_enterCall_129 ?_
              refine V.ifN_eq (tgt := 136) X d_Mo_enterCall_132 (by decide) (by omega) (fun h => absurd h (by omega)) (fun _ => ?_)
              subst hres
              exact V.vret X d_Mo_enterCall_135 rfl rfl
            · replace hres := or_t hres h111_29
              refine V.aload_n X d_Mo_enterCall_114 rfl ?_
              refine g_Mo_frame (x := (r_frame S)) X (rw_frame_pc _ _) k_Mo_288 d_Mo_enterCall_115 ?_
              obtain ⟨t32, qt32, hres⟩ := hres
              refine V.top (v' := .int (nI t32)) (by rw [qt32]; rfl) ?_
              refine V.bipush (v := nI 10) X d_Mo_enterCall_118 (by decide +kernel) ?_
              obtain ⟨g34, hres⟩ := hres
              refine V.cmpN_ne (tgt := 128) X d_Mo_enterCall_120 (by decide) (by omega) (by omega) (fun h120_33 => ?_) (fun h120_33 => ?_)
              · replace hres := or_f hres h120_33
                refine V.aload_n X d_Mo_enterCall_128 rfl ?_
                refine g_Mo_failure (x := (r_failure S)) X (rw_failure_pc _ _) k_Mo_297 d_Mo_enterCall_129 ?_
                refine V.ifN_eq (tgt := 136) X d_Mo_enterCall_132 (by decide) (by omega) (fun _ => ?_) (fun h => absurd h (by omega))
                refine V.aload_n X d_Mo_enterCall_136 rfl ?_
                refine V.aload_n X d_Mo_enterCall_137 rfl ?_
                refine g_Mo_pHome X k_Mo_72 d_Mo_enterCall_138 ?_
                refine V.iload_n X d_Mo_enterCall_141 rfl ?_
                obtain ⟨g36, hres⟩ := hres
                refine l_Mo_pHome (x := ((r_pHome S) p1)) X g36 (congrFun (rw_pHome_pc _ _) _) d_Mo_enterCall_142 ?_
                obtain ⟨v37, S37, x37, hres⟩ := hres
                refine V.callV1 X (c_Mo_runOf (h + 2) x37) Y_Mo_runOf k_Mo_291 0 rfl rfl rfl rfl rfl (Rok.lt (by omega)) d_Mo_enterCall_143 ?_
                refine V.istore_n (lv' := [(0, .ref (b 0)), (1, .int (nI p1)), (2, .int (nI x2N)), (3, .int (nI v37))]) X d_Mo_enterCall_146 (by decide) rfl ?_
                refine V.aload_n X d_Mo_enterCall_147 rfl ?_
                refine V.dup X d_Mo_enterCall_148 rfl ?_
                refine g_Mo_frame (x := (r_frame S37)) X rfl k_Mo_288 d_Mo_enterCall_149 ?_
                obtain ⟨t38, qt38, hres⟩ := hres
                refine V.top (v' := .int (nI t38)) (by rw [qt38]; rfl) ?_
                refine V.iconst (v := nI 1) X d_Mo_enterCall_152 (by decide +kernel) ?_
                refine V.iadd X d_Mo_enterCall_153 (nI_add _ _) ?_
                refine V.top (v' := .int (fI (some (t38 + 1)))) rfl ?_
                refine p_Mo_frame X k_Mo_288 d_Mo_enterCall_154 ?_
                refine V.aload_n X d_Mo_enterCall_157 rfl ?_
                refine g_Mo_frame (x := (some (t38 + 1))) X (rw_frame_frame _ _) k_Mo_288 d_Mo_enterCall_158 ?_
                refine V.top (v' := .int (nI (t38 + 1))) rfl ?_
                refine V.aload_n X d_Mo_enterCall_161 rfl ?_
                refine g_Mo_greatest (x := (r_greatest S37)) X (rw_greatest_frame _ _) k_Mo_321 d_Mo_enterCall_162 ?_
                obtain ⟨g40, hres⟩ := hres
                obtain ⟨g41, hres⟩ := hres
                refine V.cmpN_le (tgt := 176) X d_Mo_enterCall_165 (by decide) (by omega) (by omega) (fun h165_39 => ?_) (fun h165_39 => ?_)
                · replace hres := or_t hres h165_39
                  refine V.aload_n X d_Mo_enterCall_176 rfl ?_
                  refine g_Mo_blockOf X k_Mo_96 d_Mo_enterCall_177 ?_
                  refine V.aload_n X d_Mo_enterCall_180 rfl ?_
                  refine g_Mo_frame (x := (some (t38 + 1))) X (rw_frame_frame _ _) k_Mo_288 d_Mo_enterCall_181 ?_
                  refine V.top (v' := .int (nI (t38 + 1))) rfl ?_
                  refine V.aload_n X d_Mo_enterCall_184 rfl ?_
                  refine g_Mo_pOwn X k_Mo_75 d_Mo_enterCall_185 ?_
                  refine V.iload_n X d_Mo_enterCall_188 rfl ?_
                  obtain ⟨g42, hres⟩ := hres
                  refine l_Mo_pOwn (x := ((r_pOwn S37) p1)) X g42 (congrFun (rw_pOwn_frame _ _) _) d_Mo_enterCall_189 ?_
                  obtain ⟨g43, hres⟩ := hres
                  refine s_Mo_blockOf (g := (r_blockOf S37)) X g43 (rw_blockOf_frame _ _) d_Mo_enterCall_190 ?_
                  refine V.aload_n X d_Mo_enterCall_191 rfl ?_
                  refine g_Mo_outer X k_Mo_99 d_Mo_enterCall_192 ?_
                  refine V.aload_n X d_Mo_enterCall_195 rfl ?_
                  refine g_Mo_frame (x := (some (t38 + 1))) X (Eq.trans (rw_frame_blockOf _ _) (rw_frame_frame _ _)) k_Mo_288 d_Mo_enterCall_196 ?_
                  refine V.top (v' := .int (nI (t38 + 1))) rfl ?_
                  refine V.iload_n X d_Mo_enterCall_199 rfl ?_
                  obtain ⟨g44, hres⟩ := hres
                  refine V.top (v' := .int (fI (some v37))) rfl ?_
                  refine s_Mo_outer (g := (r_outer S37)) X g44 (Eq.trans (rw_outer_blockOf _ _) (rw_outer_frame _ _)) d_Mo_enterCall_200 ?_
                  refine V.aload_n X d_Mo_enterCall_201 rfl ?_
                  refine g_Mo_back X k_Mo_102 d_Mo_enterCall_202 ?_
                  refine V.aload_n X d_Mo_enterCall_205 rfl ?_
                  refine g_Mo_frame (x := (some (t38 + 1))) X (Eq.trans (rw_frame_outer _ _) (Eq.trans (rw_frame_blockOf _ _) (rw_frame_frame _ _))) k_Mo_288 d_Mo_enterCall_206 ?_
                  refine V.top (v' := .int (nI (t38 + 1))) rfl ?_
                  refine V.aload_n X d_Mo_enterCall_209 rfl ?_
                  refine g_Mo_pc (x := (r_pc S37)) X (Eq.trans (rw_pc_outer _ _) (Eq.trans (rw_pc_blockOf _ _) (rw_pc_frame _ _))) k_Mo_300 d_Mo_enterCall_210 ?_
                  obtain ⟨g45, hres⟩ := hres
                  refine s_Mo_back (g := (r_back S37)) X g45 (Eq.trans (rw_back_outer _ _) (Eq.trans (rw_back_blockOf _ _) (rw_back_frame _ _))) d_Mo_enterCall_213 ?_
                  refine V.aload_n X d_Mo_enterCall_214 rfl ?_
                  refine g_Mo_level X k_Mo_105 d_Mo_enterCall_215 ?_
                  refine V.aload_n X d_Mo_enterCall_218 rfl ?_
                  refine g_Mo_frame (x := (some (t38 + 1))) X (Eq.trans (rw_frame_back _ _) (Eq.trans (rw_frame_outer _ _) (Eq.trans (rw_frame_blockOf _ _) (rw_frame_frame _ _)))) k_Mo_288 d_Mo_enterCall_219 ?_
                  refine V.top (v' := .int (nI (t38 + 1))) rfl ?_
                  refine V.iconst (v := nI 0) X d_Mo_enterCall_222 (by decide +kernel) ?_
                  obtain ⟨g46, hres⟩ := hres
                  refine s_Mo_level (g := (r_level S37)) X g46 (Eq.trans (rw_level_back _ _) (Eq.trans (rw_level_outer _ _) (Eq.trans (rw_level_blockOf _ _) (rw_level_frame _ _)))) d_Mo_enterCall_223 ?_
                  refine V.iconst (v := nI 0) X d_Mo_enterCall_224 (by decide +kernel) ?_
                  refine V.istore (lv' := [(0, .ref (b 0)), (1, .int (nI p1)), (2, .int (nI x2N)), (3, .int (nI v37)), (4, .int (nI 0))]) X d_Mo_enterCall_225 (by decide) rfl ?_
                  refine V.pick [0, 1, 2, 4] rfl ?_
                  refine V.lvs (lv' := [(0, .ref (b 0)), (1, .int (nI p1)), (2, .int (nI x2N)), (4, .int (nI 0))]) rfl ?_
                  exact ih.2.1 _ _ (w_level (w_back (w_outer (w_blockOf (w_frame S37 (some (t38 + 1))) (va_up (r_blockOf S37) (t38 + 1) ((r_pOwn S37) p1))) (va_up (r_outer S37) (t38 + 1) (some v37))) (va_up (r_back S37) (t38 + 1) (r_pc S37))) (va_up (r_level S37) (t38 + 1) 0)) hres
                · replace hres := or_f hres (Nat.not_le.mpr h165_39)
                  refine V.aload_n X d_Mo_enterCall_168 rfl ?_
                  refine V.aload_n X d_Mo_enterCall_169 rfl ?_
                  refine g_Mo_frame (x := (some (t38 + 1))) X (rw_frame_frame _ _) k_Mo_288 d_Mo_enterCall_170 ?_
                  refine V.top (v' := .int (nI (t38 + 1))) rfl ?_
                  refine p_Mo_greatest X k_Mo_321 d_Mo_enterCall_173 ?_
                  refine V.aload_n X d_Mo_enterCall_176 rfl ?_
                  refine g_Mo_blockOf X k_Mo_96 d_Mo_enterCall_177 ?_
                  refine V.aload_n X d_Mo_enterCall_180 rfl ?_
                  refine g_Mo_frame (x := (some (t38 + 1))) X (Eq.trans (rw_frame_greatest _ _) (rw_frame_frame _ _)) k_Mo_288 d_Mo_enterCall_181 ?_
                  refine V.top (v' := .int (nI (t38 + 1))) rfl ?_
                  refine V.aload_n X d_Mo_enterCall_184 rfl ?_
                  refine g_Mo_pOwn X k_Mo_75 d_Mo_enterCall_185 ?_
                  refine V.iload_n X d_Mo_enterCall_188 rfl ?_
                  obtain ⟨g47, hres⟩ := hres
                  refine l_Mo_pOwn (x := ((r_pOwn S37) p1)) X g47 (congrFun (Eq.trans (rw_pOwn_greatest _ _) (rw_pOwn_frame _ _)) _) d_Mo_enterCall_189 ?_
                  obtain ⟨g48, hres⟩ := hres
                  refine s_Mo_blockOf (g := (r_blockOf S37)) X g48 (Eq.trans (rw_blockOf_greatest _ _) (rw_blockOf_frame _ _)) d_Mo_enterCall_190 ?_
                  refine V.aload_n X d_Mo_enterCall_191 rfl ?_
                  refine g_Mo_outer X k_Mo_99 d_Mo_enterCall_192 ?_
                  refine V.aload_n X d_Mo_enterCall_195 rfl ?_
                  refine g_Mo_frame (x := (some (t38 + 1))) X (Eq.trans (rw_frame_blockOf _ _) (Eq.trans (rw_frame_greatest _ _) (rw_frame_frame _ _))) k_Mo_288 d_Mo_enterCall_196 ?_
                  refine V.top (v' := .int (nI (t38 + 1))) rfl ?_
                  refine V.iload_n X d_Mo_enterCall_199 rfl ?_
                  obtain ⟨g49, hres⟩ := hres
                  refine V.top (v' := .int (fI (some v37))) rfl ?_
                  refine s_Mo_outer (g := (r_outer S37)) X g49 (Eq.trans (rw_outer_blockOf _ _) (Eq.trans (rw_outer_greatest _ _) (rw_outer_frame _ _))) d_Mo_enterCall_200 ?_
                  refine V.aload_n X d_Mo_enterCall_201 rfl ?_
                  refine g_Mo_back X k_Mo_102 d_Mo_enterCall_202 ?_
                  refine V.aload_n X d_Mo_enterCall_205 rfl ?_
                  refine g_Mo_frame (x := (some (t38 + 1))) X (Eq.trans (rw_frame_outer _ _) (Eq.trans (rw_frame_blockOf _ _) (Eq.trans (rw_frame_greatest _ _) (rw_frame_frame _ _)))) k_Mo_288 d_Mo_enterCall_206 ?_
                  refine V.top (v' := .int (nI (t38 + 1))) rfl ?_
                  refine V.aload_n X d_Mo_enterCall_209 rfl ?_
                  refine g_Mo_pc (x := (r_pc S37)) X (Eq.trans (rw_pc_outer _ _) (Eq.trans (rw_pc_blockOf _ _) (Eq.trans (rw_pc_greatest _ _) (rw_pc_frame _ _)))) k_Mo_300 d_Mo_enterCall_210 ?_
                  obtain ⟨g50, hres⟩ := hres
                  refine s_Mo_back (g := (r_back S37)) X g50 (Eq.trans (rw_back_outer _ _) (Eq.trans (rw_back_blockOf _ _) (Eq.trans (rw_back_greatest _ _) (rw_back_frame _ _)))) d_Mo_enterCall_213 ?_
                  refine V.aload_n X d_Mo_enterCall_214 rfl ?_
                  refine g_Mo_level X k_Mo_105 d_Mo_enterCall_215 ?_
                  refine V.aload_n X d_Mo_enterCall_218 rfl ?_
                  refine g_Mo_frame (x := (some (t38 + 1))) X (Eq.trans (rw_frame_back _ _) (Eq.trans (rw_frame_outer _ _) (Eq.trans (rw_frame_blockOf _ _) (Eq.trans (rw_frame_greatest _ _) (rw_frame_frame _ _))))) k_Mo_288 d_Mo_enterCall_219 ?_
                  refine V.top (v' := .int (nI (t38 + 1))) rfl ?_
                  refine V.iconst (v := nI 0) X d_Mo_enterCall_222 (by decide +kernel) ?_
                  obtain ⟨g51, hres⟩ := hres
                  refine s_Mo_level (g := (r_level S37)) X g51 (Eq.trans (rw_level_back _ _) (Eq.trans (rw_level_outer _ _) (Eq.trans (rw_level_blockOf _ _) (Eq.trans (rw_level_greatest _ _) (rw_level_frame _ _))))) d_Mo_enterCall_223 ?_
                  refine V.iconst (v := nI 0) X d_Mo_enterCall_224 (by decide +kernel) ?_
                  refine V.istore (lv' := [(0, .ref (b 0)), (1, .int (nI p1)), (2, .int (nI x2N)), (3, .int (nI v37)), (4, .int (nI 0))]) X d_Mo_enterCall_225 (by decide) rfl ?_
                  refine V.pick [0, 1, 2, 4] rfl ?_
                  refine V.lvs (lv' := [(0, .ref (b 0)), (1, .int (nI p1)), (2, .int (nI x2N)), (4, .int (nI 0))]) rfl ?_
                  exact ih.2.1 _ _ (w_level (w_back (w_outer (w_blockOf (w_greatest (w_frame S37 (some (t38 + 1))) (t38 + 1)) (va_up (r_blockOf S37) (t38 + 1) ((r_pOwn S37) p1))) (va_up (r_outer S37) (t38 + 1) (some v37))) (va_up (r_back S37) (t38 + 1) (r_pc S37))) (va_up (r_level S37) (t38 + 1) 0)) hres
              · replace hres := or_t hres h120_33
                refine V.aload_n X d_Mo_enterCall_123 rfl ?_
                refine V.iconst (v := nI 4) X d_Mo_enterCall_124 (by decide +kernel) ?_
                refine p_Mo_failure X k_Mo_297 d_Mo_enterCall_125 ?_
                refine V.aload_n X d_Mo_enterCall_128 rfl ?_
                refine g_Mo_failure (x := 4) X (rw_failure_failure _ _) k_Mo_297 d_Mo_enterCall_129 ?_
                refine V.ifN_eq (tgt := 136) X d_Mo_enterCall_132 (by decide) (by decide) (fun h => absurd h (by decide)) (fun _ => ?_)
                subst hres
                exact V.vret X d_Mo_enterCall_135 rfl rfl
        · replace hres := or_f hres (Nat.not_le.mpr h11_1)
          refine V.aload_n X d_Mo_enterCall_14 rfl ?_
          refine g_Mo_failure (x := (r_failure S)) X rfl k_Mo_297 d_Mo_enterCall_15 ?_
          obtain ⟨g54, hres⟩ := hres
          refine V.ifN_ne (tgt := 93) X d_Mo_enterCall_18 (by decide) (by omega) (fun h18_53 => ?_) (fun h18_53 => ?_)
          · replace hres := or_f hres h18_53
            refine V.iload_n X d_Mo_enterCall_93 rfl ?_
            refine V.ifN_le (tgt := 107) X d_Mo_enterCall_94 (by decide) (by omega) (fun h94_55 => ?_) (fun h94_55 => ?_)
            · replace hres := or_t hres h94_55
              refine V.aload_n X d_Mo_enterCall_107 rfl ?_
              refine g_Mo_failure (x := (r_failure S)) X rfl k_Mo_297 d_Mo_enterCall_108 ?_
              refine V.ifN_ne (tgt := 128) X d_Mo_enterCall_111 (by decide) (by omega) (fun _ => ?_) (fun h => absurd h (by omega))
              refine V.aload_n X d_Mo_enterCall_128 rfl ?_
              refine g_Mo_failure (x := (r_failure S)) X rfl k_Mo_297 d_Mo_enterCall_129 ?_
              refine V.ifN_eq (tgt := 136) X d_Mo_enterCall_132 (by decide) (by omega) (fun h => absurd h (by omega)) (fun _ => ?_)
              subst hres
              exact V.vret X d_Mo_enterCall_135 rfl rfl
            · replace hres := or_f hres h94_55
              refine V.aload_n X d_Mo_enterCall_97 rfl ?_
              refine V.dup X d_Mo_enterCall_98 rfl ?_
              refine g_Mo_pc (x := (r_pc S)) X rfl k_Mo_300 d_Mo_enterCall_99 ?_
              refine V.iconst (v := nI 1) X d_Mo_enterCall_102 (by decide +kernel) ?_
              refine V.iadd X d_Mo_enterCall_103 (nI_add _ _) ?_
              refine p_Mo_pc X k_Mo_300 d_Mo_enterCall_104 ?_
              refine V.aload_n X d_Mo_enterCall_107 rfl ?_
              refine g_Mo_failure (x := (r_failure S)) X (rw_failure_pc _ _) k_Mo_297 d_Mo_enterCall_108 ?_
              refine V.ifN_ne (tgt := 128) X d_Mo_enterCall_111 (by decide) (by omega) (fun _ => ?_) (fun h => absurd h (by omega))
              refine V.aload_n X d_Mo_enterCall_128 rfl ?_
              refine g_Mo_failure (x := (r_failure S)) X (rw_failure_pc _ _) k_Mo_297 d_Mo_enterCall_129 ?_
              refine V.ifN_eq (tgt := 136) X d_Mo_enterCall_132 (by decide) (by omega) (fun h => absurd h (by omega)) (fun _ => ?_)
              subst hres
              exact V.vret X d_Mo_enterCall_135 rfl rfl
          · replace hres := or_t hres h18_53
            refine V.aload_n X d_Mo_enterCall_21 rfl ?_
            refine V.dup X d_Mo_enterCall_22 rfl ?_
            refine g_Mo_pc (x := (r_pc S)) X rfl k_Mo_300 d_Mo_enterCall_23 ?_
            refine V.iconst (v := nI 1) X d_Mo_enterCall_26 (by decide +kernel) ?_
            refine V.iadd X d_Mo_enterCall_27 (nI_add _ _) ?_
            refine p_Mo_pc X k_Mo_300 d_Mo_enterCall_28 ?_
            refine V.aload_n X d_Mo_enterCall_31 rfl ?_
            refine g_Mo_pSort X k_Mo_69 d_Mo_enterCall_32 ?_
            refine V.iload_n X d_Mo_enterCall_35 rfl ?_
            refine V.iconst (v := nI 1) X d_Mo_enterCall_36 (by decide +kernel) ?_
            refine V.iadd X d_Mo_enterCall_37 (nI_add _ _) ?_
            refine V.iload_n X d_Mo_enterCall_38 rfl ?_
            refine V.iadd X d_Mo_enterCall_39 (nI_add _ _) ?_
            obtain ⟨g60, hres⟩ := hres
            refine l_Mo_pSort (x := ((r_pSort S) ((p1 + 1) + x3N))) X g60 (congrFun (rw_pSort_pc _ _) _) d_Mo_enterCall_40 ?_
            refine V.iconst (v := nI 2) X d_Mo_enterCall_41 (by decide +kernel) ?_
            obtain ⟨g62, hres⟩ := hres
            refine V.cmpN_ne (tgt := 77) X d_Mo_enterCall_42 (by decide) (by omega) (by omega) (fun h42_61 => ?_) (fun h42_61 => ?_)
            · replace hres := or_f hres h42_61
              refine V.aload_n X d_Mo_enterCall_77 rfl ?_
              refine g_Mo_given X k_Mo_129 d_Mo_enterCall_78 ?_
              refine V.iload_n X d_Mo_enterCall_81 rfl ?_
              refine V.aload_n X d_Mo_enterCall_82 rfl ?_
              obtain ⟨v63, S63, x63, hres⟩ := hres
              refine V.callV1 X (c_Mo_evaluate (h + 0) x63) Y_Mo_evaluate k_Mo_318 0 rfl rfl rfl rfl rfl (Rok.lt (by omega)) d_Mo_enterCall_83 ?_
              obtain ⟨g64, hres⟩ := hres
              refine s_Mo_given (g := (r_given S63)) X g64 rfl d_Mo_enterCall_86 ?_
              refine V.iinc (lv' := [(0, .ref (b 0)), (1, .int (nI p1)), (2, .int (nI x2N)), (3, .int (nI (x3N + 1)))]) X d_Mo_enterCall_87 rfl (show _ + nI 1 = _ from nI_add _ 1) (by decide) rfl ?_
              refine V.goto (tgt := 9) X d_Mo_enterCall_90 (by decide) ?_
              refine V.lvs (lv' := [(0, .ref (b 0)), (1, .int (nI p1)), (2, .int (nI x2N)), (3, .int (nI (x3N + 1)))]) rfl ?_
              exact ih.1 _ _ (w_given S63 (upd (r_given S63) x3N v63)) hres
            · replace hres := or_t hres h42_61
              refine V.aload_n X d_Mo_enterCall_45 rfl ?_
              refine g_Mo_given X k_Mo_129 d_Mo_enterCall_46 ?_
              refine V.iload_n X d_Mo_enterCall_49 rfl ?_
              refine V.aload_n X d_Mo_enterCall_50 rfl ?_
              refine V.aload_n X d_Mo_enterCall_51 rfl ?_
              refine g_Mo_pMeans X k_Mo_38 d_Mo_enterCall_52 ?_
              refine V.aload_n X d_Mo_enterCall_55 rfl ?_
              refine g_Mo_pc (x := ((r_pc S) + 1)) X (rw_pc_pc _ _) k_Mo_300 d_Mo_enterCall_56 ?_
              obtain ⟨g65, hres⟩ := hres
              refine l_Mo_pMeans (x := ((r_pMeans S) ((r_pc S) + 1))) X g65 (congrFun (rw_pMeans_pc _ _) _) d_Mo_enterCall_59 ?_
              obtain ⟨v66, S66, x66, hres⟩ := hres
              refine V.callV1 X (c_Mo_place (h + 1) x66) Y_Mo_place k_Mo_306 0 rfl rfl rfl rfl rfl (Rok.lt (by omega)) d_Mo_enterCall_60 ?_
              obtain ⟨g67, hres⟩ := hres
              refine V.top (v' := .int (nI v66)) rfl ?_
              refine s_Mo_given (g := (r_given S66)) X g67 rfl d_Mo_enterCall_63 ?_
              refine V.aload_n X d_Mo_enterCall_64 rfl ?_
              refine V.dup X d_Mo_enterCall_65 rfl ?_
              refine g_Mo_pc (x := (r_pc S66)) X (rw_pc_given _ _) k_Mo_300 d_Mo_enterCall_66 ?_
              refine V.iconst (v := nI 1) X d_Mo_enterCall_69 (by decide +kernel) ?_
              refine V.iadd X d_Mo_enterCall_70 (nI_add _ _) ?_
              refine p_Mo_pc X k_Mo_300 d_Mo_enterCall_71 ?_
              refine V.goto (tgt := 87) X d_Mo_enterCall_74 (by decide) ?_
              refine V.iinc (lv' := [(0, .ref (b 0)), (1, .int (nI p1)), (2, .int (nI x2N)), (3, .int (nI (x3N + 1)))]) X d_Mo_enterCall_87 rfl (show _ + nI 1 = _ from nI_add _ 1) (by decide) rfl ?_
              refine V.goto (tgt := 9) X d_Mo_enterCall_90 (by decide) ?_
              refine V.lvs (lv' := [(0, .ref (b 0)), (1, .int (nI p1)), (2, .int (nI x2N)), (3, .int (nI (x3N + 1)))]) rfl ?_
              exact ih.1 _ _ (w_pc (w_given S66 (upd (r_given S66) x3N (nI v66))) ((r_pc S66) + 1)) hres
      · intro x2N x4N S hres
        rw [mo_enterCall_go] at hres
        try dsimp only at hres
        refine V.iload X d_Mo_enterCall_227 rfl ?_
        refine V.bipush (v := nI 12) X d_Mo_enterCall_229 (by decide +kernel) ?_
        obtain ⟨g69, hres⟩ := hres
        refine V.cmpN_ge (tgt := 256) X d_Mo_enterCall_231 (by decide) (by omega) (by omega) (fun h231_68 => ?_) (fun h231_68 => ?_)
        · replace hres := or_t hres h231_68
          refine V.iconst (v := nI 0) X d_Mo_enterCall_256 (by decide +kernel) ?_
          refine V.istore (lv' := [(0, .ref (b 0)), (1, .int (nI p1)), (2, .int (nI x2N)), (4, .int (nI 0))]) X d_Mo_enterCall_257 (by decide) rfl ?_
          refine V.lvs (lv' := [(0, .ref (b 0)), (1, .int (nI p1)), (2, .int (nI x2N)), (4, .int (nI 0))]) rfl ?_
          exact ih.2.2 _ _ S hres
        · replace hres := or_f hres (Nat.not_le.mpr h231_68)
          refine V.aload_n X d_Mo_enterCall_234 rfl ?_
          refine g_Mo_cell X k_Mo_90 d_Mo_enterCall_235 ?_
          refine V.bipush (v := nI 12) X d_Mo_enterCall_238 (by decide +kernel) ?_
          refine V.aload_n X d_Mo_enterCall_240 rfl ?_
          refine g_Mo_frame (x := (r_frame S)) X rfl k_Mo_288 d_Mo_enterCall_241 ?_
          obtain ⟨t70, qt70, hres⟩ := hres
          refine V.top (v' := .int (nI t70)) (by rw [qt70]; rfl) ?_
          refine V.imul X d_Mo_enterCall_244 (pk_mul _ _) ?_
          refine V.iload X d_Mo_enterCall_245 rfl ?_
          refine V.iadd X d_Mo_enterCall_247 (nI_add _ _) ?_
          refine V.iconst (v := nI 0) X d_Mo_enterCall_248 (by decide +kernel) ?_
          obtain ⟨g71, hres⟩ := hres
          refine V.top (v' := .int (nI 0)) rfl ?_
          refine s_Mo_cell (g := (r_cell S)) X g71 rfl d_Mo_enterCall_249 ?_
          refine V.iinc (lv' := [(0, .ref (b 0)), (1, .int (nI p1)), (2, .int (nI x2N)), (4, .int (nI (x4N + 1)))]) X d_Mo_enterCall_250 rfl (show _ + nI 1 = _ from nI_add _ 1) (by decide) rfl ?_
          refine V.goto (tgt := 227) X d_Mo_enterCall_253 (by decide) ?_
          refine V.lvs (lv' := [(0, .ref (b 0)), (1, .int (nI p1)), (2, .int (nI x2N)), (4, .int (nI (x4N + 1)))]) rfl ?_
          exact ih.2.1 _ _ (w_cell S (upd (r_cell S) ((12 * t70) + x4N) (nI 0))) hres
      · intro x2N x4N S hres
        rw [mo_enterCall_go] at hres
        try dsimp only at hres
        refine V.iload X d_Mo_enterCall_259 rfl ?_
        refine V.iload_n X d_Mo_enterCall_261 rfl ?_
        obtain ⟨g73, hres⟩ := hres
        obtain ⟨g74, hres⟩ := hres
        refine V.cmpN_ge (tgt := 319) X d_Mo_enterCall_262 (by decide) (by omega) (by omega) (fun h262_72 => ?_) (fun h262_72 => ?_)
        · replace hres := or_t hres h262_72
          refine V.aload_n X d_Mo_enterCall_319 rfl ?_
          refine V.aload_n X d_Mo_enterCall_320 rfl ?_
          refine g_Mo_pBody X k_Mo_81 d_Mo_enterCall_321 ?_
          refine V.aload_n X d_Mo_enterCall_324 rfl ?_
          refine g_Mo_pOwn X k_Mo_75 d_Mo_enterCall_325 ?_
          refine V.iload_n X d_Mo_enterCall_328 rfl ?_
          obtain ⟨g75, hres⟩ := hres
          refine l_Mo_pOwn (x := ((r_pOwn S) p1)) X g75 (congrFun rfl _) d_Mo_enterCall_329 ?_
          obtain ⟨g76, hres⟩ := hres
          refine l_Mo_pBody (x := ((r_pBody S) ((r_pOwn S) p1))) X g76 (congrFun rfl _) d_Mo_enterCall_330 ?_
          refine p_Mo_pc X k_Mo_300 d_Mo_enterCall_331 ?_
          subst hres
          exact V.vret X d_Mo_enterCall_334 rfl rfl
        · replace hres := or_f hres (Nat.not_le.mpr h262_72)
          refine V.bipush (v := nI 12) X d_Mo_enterCall_265 (by decide +kernel) ?_
          refine V.aload_n X d_Mo_enterCall_267 rfl ?_
          refine g_Mo_frame (x := (r_frame S)) X rfl k_Mo_288 d_Mo_enterCall_268 ?_
          obtain ⟨t77, qt77, hres⟩ := hres
          refine V.top (v' := .int (nI t77)) (by rw [qt77]; rfl) ?_
          refine V.imul X d_Mo_enterCall_271 (pk_mul _ _) ?_
          refine V.aload_n X d_Mo_enterCall_272 rfl ?_
          refine V.iload_n X d_Mo_enterCall_273 rfl ?_
          refine V.iconst (v := nI 1) X d_Mo_enterCall_274 (by decide +kernel) ?_
          refine V.iadd X d_Mo_enterCall_275 (nI_add _ _) ?_
          refine V.iload X d_Mo_enterCall_276 rfl ?_
          refine V.iadd X d_Mo_enterCall_278 (nI_add _ _) ?_
          obtain ⟨v78, S78, x78, hres⟩ := hres
          refine V.callV1 X (c_Mo_slot (h + 2) x78) Y_Mo_slot k_Mo_294 0 rfl rfl rfl rfl rfl (Rok.lt (by omega)) d_Mo_enterCall_279 ?_
          refine V.iadd X d_Mo_enterCall_282 (nI_add _ _) ?_
          refine V.istore (lv' := [(0, .ref (b 0)), (1, .int (nI p1)), (2, .int (nI x2N)), (4, .int (nI x4N)), (5, .int (nI ((12 * t77) + v78)))]) X d_Mo_enterCall_283 (by decide) rfl ?_
          refine V.aload_n X d_Mo_enterCall_285 rfl ?_
          refine g_Mo_cell X k_Mo_90 d_Mo_enterCall_286 ?_
          refine V.iload X d_Mo_enterCall_289 rfl ?_
          refine V.aload_n X d_Mo_enterCall_291 rfl ?_
          refine g_Mo_given X k_Mo_129 d_Mo_enterCall_292 ?_
          refine V.iload X d_Mo_enterCall_295 rfl ?_
          obtain ⟨g79, hres⟩ := hres
          refine l_Mo_given (x := ((r_given S78) x4N)) X g79 (congrFun rfl _) d_Mo_enterCall_297 ?_
          obtain ⟨g80, hres⟩ := hres
          refine s_Mo_cell (g := (r_cell S78)) X g80 rfl d_Mo_enterCall_298 ?_
          refine V.aload_n X d_Mo_enterCall_299 rfl ?_
          refine g_Mo_stands X k_Mo_93 d_Mo_enterCall_300 ?_
          refine V.iload X d_Mo_enterCall_303 rfl ?_
          refine V.aload_n X d_Mo_enterCall_305 rfl ?_
          refine g_Mo_given X k_Mo_129 d_Mo_enterCall_306 ?_
          refine V.iload X d_Mo_enterCall_309 rfl ?_
          obtain ⟨g81, hres⟩ := hres
          refine l_Mo_given (x := ((r_given S78) x4N)) X g81 (congrFun (rw_given_cell _ _) _) d_Mo_enterCall_311 ?_
          obtain ⟨g82, hres⟩ := hres
          refine V.top (v' := .int (nI (i32n ((r_given S78) x4N)))) (by rw [nI_i32n]) ?_
          refine s_Mo_stands (g := (r_stands S78)) X g82 (rw_stands_cell _ _) d_Mo_enterCall_312 ?_
          refine V.iinc (lv' := [(0, .ref (b 0)), (1, .int (nI p1)), (2, .int (nI x2N)), (4, .int (nI (x4N + 1))), (5, .int (nI ((12 * t77) + v78)))]) X d_Mo_enterCall_313 rfl (show _ + nI 1 = _ from nI_add _ 1) (by decide) rfl ?_
          refine V.goto (tgt := 259) X d_Mo_enterCall_316 (by decide) ?_
          refine V.pick [0, 1, 2, 3] rfl ?_
          refine V.lvs (lv' := [(0, .ref (b 0)), (1, .int (nI p1)), (2, .int (nI x2N)), (4, .int (nI (x4N + 1)))]) rfl ?_
          exact ih.2.2 _ _ (w_stands (w_cell S78 (upd (r_cell S78) ((12 * t77) + v78) ((r_given S78) x4N))) (va_up (r_stands S78) ((12 * t77) + v78) (i32n ((r_given S78) x4N)))) hres
  refine V.lvs (lv' := [(0, .ref (b 0)), (1, .int (nI p1))]) rfl ?_
  refine V.aload_n X d_Mo_enterCall_0 rfl ?_
  refine g_Mo_pWants X k_Mo_78 d_Mo_enterCall_1 ?_
  refine V.iload_n X d_Mo_enterCall_4 rfl ?_
  obtain ⟨g83, hres⟩ := hres
  refine l_Mo_pWants (x := ((r_pWants S) p1)) X g83 (congrFun rfl _) d_Mo_enterCall_5 ?_
  refine V.istore_n (lv' := [(0, .ref (b 0)), (1, .int (nI p1)), (2, .int (nI ((r_pWants S) p1)))]) X d_Mo_enterCall_6 (by decide) rfl ?_
  refine V.iconst (v := nI 0) X d_Mo_enterCall_7 (by decide +kernel) ?_
  refine V.istore_n (lv' := [(0, .ref (b 0)), (1, .int (nI p1)), (2, .int (nI ((r_pWants S) p1))), (3, .int (nI 0))]) X d_Mo_enterCall_8 (by decide) rfl ?_
  refine V.lvs (lv' := [(0, .ref (b 0)), (1, .int (nI p1)), (2, .int (nI ((r_pWants S) p1))), (3, .int (nI 0))]) rfl ?_
  obtain ⟨n, hres⟩ := hres
  exact (go n).1 _ _ S hres
def mo_write (p1 : Int32) (S : MS) (S' : MS) : Prop := (r_written S) < 2147483648 ∧ (((r_written S) = 32 ∧ (S' = (w_lost S ((r_lost S) + 1)))) ∨ (¬ (r_written S) = 32 ∧ ((r_written S) < 32 ∧ (S' = (w_written (w_output S (upd (r_output S) (r_written S) p1)) ((r_written S) + 1))))))
set_option maxHeartbeats 4000000 in
set_option maxRecDepth 100000 in
theorem c_Mo_write {l : Launch} {z : Zt} {b : Nat → Nat} {S : MS} {p1 : Int32} {S' : MS} (h : Nat) (hres : mo_write p1 S S') : XC l (Gz z) (h + 1) y_Mo_write b_Mo_write 2 none [.ref (b 0), .int p1] (mw z b S) (.inl none) (mw z b S') := by
  rw [mo_write] at hres
  refine XC.ofV (by decide +kernel) rfl ?_
  intro p e s m below meth c X hnm
  refine V.lvs (lv' := [(0, .ref (b 0)), (1, .int p1)]) rfl ?_
  refine V.aload_n X d_Mo_write_0 rfl ?_
  refine g_Mo_written (x := (r_written S)) X rfl k_Mo_324 d_Mo_write_1 ?_
  refine V.bipush (v := nI 32) X d_Mo_write_4 (by decide +kernel) ?_
  obtain ⟨g2, hres⟩ := hres
  refine V.cmpN_ne (tgt := 20) X d_Mo_write_6 (by decide) (by omega) (by omega) (fun h6_1 => ?_) (fun h6_1 => ?_)
  · replace hres := or_f hres h6_1
    refine V.aload_n X d_Mo_write_20 rfl ?_
    refine g_Mo_output X k_Mo_114 d_Mo_write_21 ?_
    refine V.aload_n X d_Mo_write_24 rfl ?_
    refine g_Mo_written (x := (r_written S)) X rfl k_Mo_324 d_Mo_write_25 ?_
    refine V.iload_n X d_Mo_write_28 rfl ?_
    obtain ⟨g3, hres⟩ := hres
    refine s_Mo_output (g := (r_output S)) X g3 rfl d_Mo_write_29 ?_
    refine V.aload_n X d_Mo_write_30 rfl ?_
    refine V.dup X d_Mo_write_31 rfl ?_
    refine g_Mo_written (x := (r_written S)) X (rw_written_output _ _) k_Mo_324 d_Mo_write_32 ?_
    refine V.iconst (v := nI 1) X d_Mo_write_35 (by decide +kernel) ?_
    refine V.iadd X d_Mo_write_36 (nI_add _ _) ?_
    refine p_Mo_written X k_Mo_324 d_Mo_write_37 ?_
    subst hres
    exact V.vret X d_Mo_write_40 rfl rfl
  · replace hres := or_t hres h6_1
    refine V.aload_n X d_Mo_write_9 rfl ?_
    refine V.dup X d_Mo_write_10 rfl ?_
    refine g_Mo_lost (x := (r_lost S)) X rfl k_Mo_327 d_Mo_write_11 ?_
    refine V.iconst (v := nI 1) X d_Mo_write_14 (by decide +kernel) ?_
    refine V.iadd X d_Mo_write_15 (nI_add _ _) ?_
    refine p_Mo_lost X k_Mo_327 d_Mo_write_16 ?_
    subst hres
    exact V.vret X d_Mo_write_19 rfl rfl
def mo_over_go : Nat → Nat → MS → MS → Prop
  | 0, _, _, _ => False
  | n + 1, _, S, S' => ((r_frame S) = none ∧ (S' = S)) ∨ (∃ t3, (r_frame S) = some t3 ∧ (t3 < 2147483648 ∧ (t3 < 11 ∧ (((r_level S) t3) < 2147483648 ∧ ((((r_level S) t3) = 0 ∧ ((r_pc S) < 155 ∧ (((r_pKind S) (r_pc S)) < 2147483648 ∧ ((((r_pKind S) (r_pc S)) = 59 ∧ (S' = (w_pc S ((r_pc S) + 1)))) ∨ (¬ ((r_pKind S) (r_pc S)) = 59 ∧ (t3 < 11 ∧ (mo_over_go n 0  (w_frame (w_pc S ((r_back S) t3)) (predO t3)) S'))))))) ∨ (¬ ((r_level S) t3) = 0 ∧ (t3 < 11 ∧ (1 ≤ ((10 * t3) + ((r_level S) t3)) ∧ ((((10 * t3) + ((r_level S) t3)) - 1) < 110 ∧ (t3 < 11 ∧ (1 ≤ ((10 * t3) + ((r_level S) t3)) ∧ ((((10 * t3) + ((r_level S) t3)) - 1) < 110 ∧ (((r_doing S) (((10 * t3) + ((r_level S) t3)) - 1)) < 2147483648 ∧ ((((r_doing S) (((10 * t3) + ((r_level S) t3)) - 1)) = 5 ∧ ((r_pc S) < 155 ∧ (((r_pKind S) (r_pc S)) < 2147483648 ∧ ((((r_pKind S) (r_pc S)) = 59 ∧ (S' = (w_pc S ((r_pc S) + 1)))) ∨ (¬ ((r_pKind S) (r_pc S)) = 59 ∧ (t3 < 11 ∧ (1 ≤ ((r_level S) t3) ∧ (t3 < 11 ∧ (mo_over_go n 0  (w_pc (w_level S (va_up (r_level S) t3 (((r_level S) t3) - 1))) ((r_pc S) + 1)) S'))))))))) ∨ (¬ ((r_doing S) (((10 * t3) + ((r_level S) t3)) - 1)) = 5 ∧ (t3 < 11 ∧ (1 ≤ ((r_level S) t3) ∧ (t3 < 11 ∧ ((((r_doing S) (((10 * t3) + ((r_level S) t3)) - 1)) = 10 ∧ (S' = (w_pc (w_level S (va_up (r_level S) t3 (((r_level S) t3) - 1))) ((r_doneAt S) (((10 * t3) + ((r_level S) t3)) - 1))))) ∨ (¬ ((r_doing S) (((10 * t3) + ((r_level S) t3)) - 1)) = 10 ∧ ((((r_doing S) (((10 * t3) + ((r_level S) t3)) - 1)) = 7 ∧ ((r_pc S) < 155 ∧ (((r_pKind S) (r_pc S)) < 2147483648 ∧ ((((r_pKind S) (r_pc S)) = 9 ∧ (((r_doneAt S) (((10 * t3) + ((r_level S) t3)) - 1)) < 155 ∧ (((r_pNext S) ((r_doneAt S) (((10 * t3) + ((r_level S) t3)) - 1))) < 2147483648 ∧ ((((r_pNext S) ((r_doneAt S) (((10 * t3) + ((r_level S) t3)) - 1))) = (r_pc S) ∧ ((r_pc S) < 155 ∧ (mo_over_go n 0  (w_pc (w_level S (va_up (r_level S) t3 (((r_level S) t3) - 1))) ((r_pNext S) (r_pc S))) S'))) ∨ (¬ ((r_pNext S) ((r_doneAt S) (((10 * t3) + ((r_level S) t3)) - 1))) = (r_pc S) ∧ (mo_over_go n 0  (w_level S (va_up (r_level S) t3 (((r_level S) t3) - 1))) S')))))) ∨ (¬ ((r_pKind S) (r_pc S)) = 9 ∧ (mo_over_go n 0  (w_level S (va_up (r_level S) t3 (((r_level S) t3) - 1))) S')))))) ∨ (¬ ((r_doing S) (((10 * t3) + ((r_level S) t3)) - 1)) = 7 ∧ (mo_over_go n 0  (w_level S (va_up (r_level S) t3 (((r_level S) t3) - 1))) S')))))))))))))))))))))))
def mo_over (S : MS) (S' : MS) : Prop := ∃ n, mo_over_go n 0  S S'
set_option maxHeartbeats 4000000 in
set_option maxRecDepth 100000 in
theorem c_Mo_over {l : Launch} {z : Zt} {b : Nat → Nat} {S : MS} {S' : MS} (h : Nat) (hres : mo_over S S') : XC l (Gz z) (h + 1) y_Mo_over b_Mo_over 5 none [.ref (b 0)] (mw z b S) (.inl none) (mw z b S') := by
  rw [mo_over] at hres
  refine XC.ofV (by decide +kernel) rfl ?_
  intro p e s m below meth c X hnm
  have go : ∀ n : Nat, (∀ (S : MS), mo_over_go n 0  S S' → V p l e (Rm (h + 1)) s m ([.ref (b 0)] : List Value).toArray below meth c (Gz z) 5 0 0 (XE below (Gz z) (.inl none) (mw z b S') ([.ref (b 0)] : List Value).toArray s) (mw z b S) 2 [(0, .ref (b 0)), (1, .int (nI 1))] []) := by
    intro n
    induction n with
    | zero =>
      skip
      · intro S hres
        exact absurd hres (by simp only [mo_over_go, not_false_eq_true])
    | succ n ih =>
      skip
      · intro S hres
        rw [mo_over_go] at hres
        refine V.iload_n X d_Mo_over_2 rfl ?_
        refine V.ifN_eq (tgt := 232) X d_Mo_over_3 (by decide) (by decide) (fun h => absurd h (by decide)) (fun _ => ?_)
        refine V.aload_n X d_Mo_over_6 rfl ?_
        refine g_Mo_frame (x := (r_frame S)) X rfl k_Mo_288 d_Mo_over_7 ?_
        rcases hres with ⟨qt3, hres⟩ | ⟨t3, qt3, hres⟩
        · refine V.top (v' := .int (-1)) (by rw [qt3]; rfl) ?_
          refine V.if_lt (tgt := 232) X d_Mo_over_10 (by decide) (fun _ => ?_) (fun h => absurd (by decide) h)
          subst hres
          exact V.vret X d_Mo_over_232 rfl rfl
        · refine V.top (v' := .int (nI t3)) (by rw [qt3]; rfl) ?_
          obtain ⟨g4, hres⟩ := hres
          refine V.ifN_lt (tgt := 232) X d_Mo_over_10 (by decide) (by omega) ?_
          refine V.aload_n X d_Mo_over_13 rfl ?_
          refine g_Mo_frame (x := (r_frame S)) X rfl k_Mo_288 d_Mo_over_14 ?_
          refine V.top (v' := .int (nI t3)) (by rw [qt3]; rfl) ?_
          refine V.istore_n (lv' := [(0, .ref (b 0)), (1, .int (nI 1)), (2, .int (nI t3))]) X d_Mo_over_17 (by decide) rfl ?_
          refine V.aload_n X d_Mo_over_18 rfl ?_
          refine g_Mo_level X k_Mo_105 d_Mo_over_19 ?_
          refine V.iload_n X d_Mo_over_22 rfl ?_
          obtain ⟨g5, hres⟩ := hres
          refine l_Mo_level (x := ((r_level S) t3)) X g5 (congrFun rfl _) d_Mo_over_23 ?_
          obtain ⟨g7, hres⟩ := hres
          refine V.ifN_ne (tgt := 75) X d_Mo_over_24 (by decide) (by omega) (fun h24_6 => ?_) (fun h24_6 => ?_)
          · replace hres := or_f hres h24_6
            refine V.aload_n X d_Mo_over_75 rfl ?_
            refine g_Mo_doing X k_Mo_108 d_Mo_over_76 ?_
            refine V.bipush (v := nI 10) X d_Mo_over_79 (by decide +kernel) ?_
            refine V.iload_n X d_Mo_over_81 rfl ?_
            refine V.imul X d_Mo_over_82 (pk_mul _ _) ?_
            refine V.aload_n X d_Mo_over_83 rfl ?_
            refine g_Mo_level X k_Mo_105 d_Mo_over_84 ?_
            refine V.iload_n X d_Mo_over_87 rfl ?_
            obtain ⟨g8, hres⟩ := hres
            refine l_Mo_level (x := ((r_level S) t3)) X g8 (congrFun rfl _) d_Mo_over_88 ?_
            refine V.iadd X d_Mo_over_89 (nI_add _ _) ?_
            refine V.iconst (v := nI 1) X d_Mo_over_90 (by decide +kernel) ?_
            obtain ⟨g9, hres⟩ := hres
            refine V.isub X d_Mo_over_91 (pk_sub g9) ?_
            obtain ⟨g10, hres⟩ := hres
            refine l_Mo_doing (x := ((r_doing S) (((10 * t3) + ((r_level S) t3)) - 1))) X g10 (congrFun rfl _) d_Mo_over_92 ?_
            refine V.istore_n (lv' := [(0, .ref (b 0)), (1, .int (nI 1)), (2, .int (nI t3)), (3, .int (nI ((r_doing S) (((10 * t3) + ((r_level S) t3)) - 1))))]) X d_Mo_over_93 (by decide) rfl ?_
            refine V.aload_n X d_Mo_over_94 rfl ?_
            refine g_Mo_doneAt X k_Mo_111 d_Mo_over_95 ?_
            refine V.bipush (v := nI 10) X d_Mo_over_98 (by decide +kernel) ?_
            refine V.iload_n X d_Mo_over_100 rfl ?_
            refine V.imul X d_Mo_over_101 (pk_mul _ _) ?_
            refine V.aload_n X d_Mo_over_102 rfl ?_
            refine g_Mo_level X k_Mo_105 d_Mo_over_103 ?_
            refine V.iload_n X d_Mo_over_106 rfl ?_
            obtain ⟨g11, hres⟩ := hres
            refine l_Mo_level (x := ((r_level S) t3)) X g11 (congrFun rfl _) d_Mo_over_107 ?_
            refine V.iadd X d_Mo_over_108 (nI_add _ _) ?_
            refine V.iconst (v := nI 1) X d_Mo_over_109 (by decide +kernel) ?_
            obtain ⟨g12, hres⟩ := hres
            refine V.isub X d_Mo_over_110 (pk_sub g12) ?_
            obtain ⟨g13, hres⟩ := hres
            refine l_Mo_doneAt (x := ((r_doneAt S) (((10 * t3) + ((r_level S) t3)) - 1))) X g13 (congrFun rfl _) d_Mo_over_111 ?_
            refine V.istore (lv' := [(0, .ref (b 0)), (1, .int (nI 1)), (2, .int (nI t3)), (3, .int (nI ((r_doing S) (((10 * t3) + ((r_level S) t3)) - 1)))), (4, .int (nI ((r_doneAt S) (((10 * t3) + ((r_level S) t3)) - 1))))]) X d_Mo_over_112 (by decide) rfl ?_
            refine V.iload_n X d_Mo_over_114 rfl ?_
            refine V.iconst (v := nI 5) X d_Mo_over_115 (by decide +kernel) ?_
            obtain ⟨g15, hres⟩ := hres
            refine V.cmpN_ne (tgt := 144) X d_Mo_over_116 (by decide) (by omega) (by omega) (fun h116_14 => ?_) (fun h116_14 => ?_)
            · replace hres := or_f hres h116_14
              refine V.aload_n X d_Mo_over_144 rfl ?_
              refine g_Mo_level X k_Mo_105 d_Mo_over_145 ?_
              refine V.iload_n X d_Mo_over_148 rfl ?_
              refine V.dup2 X d_Mo_over_149 rfl rfl ?_
              obtain ⟨g16, hres⟩ := hres
              refine l_Mo_level (x := ((r_level S) t3)) X g16 (congrFun rfl _) d_Mo_over_150 ?_
              refine V.iconst (v := nI 1) X d_Mo_over_151 (by decide +kernel) ?_
              obtain ⟨g17, hres⟩ := hres
              refine V.isub X d_Mo_over_152 (pk_sub g17) ?_
              obtain ⟨g18, hres⟩ := hres
              refine s_Mo_level (g := (r_level S)) X g18 rfl d_Mo_over_153 ?_
              refine V.iload_n X d_Mo_over_154 rfl ?_
              refine V.bipush (v := nI 10) X d_Mo_over_155 (by decide +kernel) ?_
              refine V.cmpN_ne (tgt := 167) X d_Mo_over_157 (by decide) (by omega) (by omega) (fun h157_19 => ?_) (fun h157_19 => ?_)
              · replace hres := or_f hres h157_19
                refine V.iload_n X d_Mo_over_167 rfl ?_
                refine V.iconst (v := nI 5) X d_Mo_over_168 (by decide +kernel) ?_
                refine V.cmpN_ne (tgt := 182) X d_Mo_over_169 (by decide) (by omega) (by omega) (fun _ => ?_) (fun h => absurd h (by omega))
                refine V.iload_n X d_Mo_over_182 rfl ?_
                refine V.bipush (v := nI 7) X d_Mo_over_183 (by decide +kernel) ?_
                refine V.cmpN_ne (tgt := 229) X d_Mo_over_185 (by decide) (by omega) (by omega) (fun h185_21 => ?_) (fun h185_21 => ?_)
                · replace hres := or_f hres h185_21
                  refine V.goto (tgt := 2) X d_Mo_over_229 (by decide) ?_
                  refine V.pick [0, 1] rfl ?_
                  refine V.lvs (lv' := [(0, .ref (b 0)), (1, .int (nI 1))]) rfl ?_
                  exact ih  (w_level S (va_up (r_level S) t3 (((r_level S) t3) - 1))) hres
                · replace hres := or_t hres h185_21
                  refine V.aload_n X d_Mo_over_188 rfl ?_
                  refine g_Mo_pKind X k_Mo_32 d_Mo_over_189 ?_
                  refine V.aload_n X d_Mo_over_192 rfl ?_
                  refine g_Mo_pc (x := (r_pc S)) X (rw_pc_level _ _) k_Mo_300 d_Mo_over_193 ?_
                  obtain ⟨g22, hres⟩ := hres
                  refine l_Mo_pKind (x := ((r_pKind S) (r_pc S))) X g22 (congrFun (rw_pKind_level _ _) _) d_Mo_over_196 ?_
                  refine V.bipush (v := nI 9) X d_Mo_over_197 (by decide +kernel) ?_
                  obtain ⟨g24, hres⟩ := hres
                  refine V.cmpN_ne (tgt := 229) X d_Mo_over_199 (by decide) (by omega) (by omega) (fun h199_23 => ?_) (fun h199_23 => ?_)
                  · replace hres := or_f hres h199_23
                    refine V.goto (tgt := 2) X d_Mo_over_229 (by decide) ?_
                    refine V.pick [0, 1] rfl ?_
                    refine V.lvs (lv' := [(0, .ref (b 0)), (1, .int (nI 1))]) rfl ?_
                    exact ih  (w_level S (va_up (r_level S) t3 (((r_level S) t3) - 1))) hres
                  · replace hres := or_t hres h199_23
                    refine V.aload_n X d_Mo_over_202 rfl ?_
                    refine g_Mo_pNext X k_Mo_41 d_Mo_over_203 ?_
                    refine V.iload X d_Mo_over_206 rfl ?_
                    obtain ⟨g25, hres⟩ := hres
                    refine l_Mo_pNext (x := ((r_pNext S) ((r_doneAt S) (((10 * t3) + ((r_level S) t3)) - 1)))) X g25 (congrFun (rw_pNext_level _ _) _) d_Mo_over_208 ?_
                    refine V.aload_n X d_Mo_over_209 rfl ?_
                    refine g_Mo_pc (x := (r_pc S)) X (rw_pc_level _ _) k_Mo_300 d_Mo_over_210 ?_
                    obtain ⟨g27, hres⟩ := hres
                    refine V.cmpN_ne (tgt := 229) X d_Mo_over_213 (by decide) (by omega) (by omega) (fun h213_26 => ?_) (fun h213_26 => ?_)
                    · replace hres := or_f hres h213_26
                      refine V.goto (tgt := 2) X d_Mo_over_229 (by decide) ?_
                      refine V.pick [0, 1] rfl ?_
                      refine V.lvs (lv' := [(0, .ref (b 0)), (1, .int (nI 1))]) rfl ?_
                      exact ih  (w_level S (va_up (r_level S) t3 (((r_level S) t3) - 1))) hres
                    · replace hres := or_t hres h213_26
                      refine V.aload_n X d_Mo_over_216 rfl ?_
                      refine V.aload_n X d_Mo_over_217 rfl ?_
                      refine g_Mo_pNext X k_Mo_41 d_Mo_over_218 ?_
                      refine V.aload_n X d_Mo_over_221 rfl ?_
                      refine g_Mo_pc (x := (r_pc S)) X (rw_pc_level _ _) k_Mo_300 d_Mo_over_222 ?_
                      obtain ⟨g28, hres⟩ := hres
                      refine l_Mo_pNext (x := ((r_pNext S) (r_pc S))) X g28 (congrFun (rw_pNext_level _ _) _) d_Mo_over_225 ?_
                      refine p_Mo_pc X k_Mo_300 d_Mo_over_226 ?_
                      refine V.goto (tgt := 2) X d_Mo_over_229 (by decide) ?_
                      refine V.pick [0, 1] rfl ?_
                      refine V.lvs (lv' := [(0, .ref (b 0)), (1, .int (nI 1))]) rfl ?_
                      exact ih  (w_pc (w_level S (va_up (r_level S) t3 (((r_level S) t3) - 1))) ((r_pNext S) (r_pc S))) hres
              · replace hres := or_t hres h157_19
                refine V.aload_n X d_Mo_over_160 rfl ?_
                refine V.iload X d_Mo_over_161 rfl ?_
                refine p_Mo_pc X k_Mo_300 d_Mo_over_163 ?_
                subst hres
                exact V.vret X d_Mo_over_166 rfl rfl
            · replace hres := or_t hres h116_14
              refine V.aload_n X d_Mo_over_119 rfl ?_
              refine g_Mo_pKind X k_Mo_32 d_Mo_over_120 ?_
              refine V.aload_n X d_Mo_over_123 rfl ?_
              refine g_Mo_pc (x := (r_pc S)) X rfl k_Mo_300 d_Mo_over_124 ?_
              obtain ⟨g29, hres⟩ := hres
              refine l_Mo_pKind (x := ((r_pKind S) (r_pc S))) X g29 (congrFun rfl _) d_Mo_over_127 ?_
              refine V.bipush (v := nI 59) X d_Mo_over_128 (by decide +kernel) ?_
              obtain ⟨g31, hres⟩ := hres
              refine V.cmpN_ne (tgt := 144) X d_Mo_over_130 (by decide) (by omega) (by omega) (fun h130_30 => ?_) (fun h130_30 => ?_)
              · replace hres := or_f hres h130_30
                refine V.aload_n X d_Mo_over_144 rfl ?_
                refine g_Mo_level X k_Mo_105 d_Mo_over_145 ?_
                refine V.iload_n X d_Mo_over_148 rfl ?_
                refine V.dup2 X d_Mo_over_149 rfl rfl ?_
                obtain ⟨g32, hres⟩ := hres
                refine l_Mo_level (x := ((r_level S) t3)) X g32 (congrFun rfl _) d_Mo_over_150 ?_
                refine V.iconst (v := nI 1) X d_Mo_over_151 (by decide +kernel) ?_
                obtain ⟨g33, hres⟩ := hres
                refine V.isub X d_Mo_over_152 (pk_sub g33) ?_
                obtain ⟨g34, hres⟩ := hres
                refine s_Mo_level (g := (r_level S)) X g34 rfl d_Mo_over_153 ?_
                refine V.iload_n X d_Mo_over_154 rfl ?_
                refine V.bipush (v := nI 10) X d_Mo_over_155 (by decide +kernel) ?_
                refine V.cmpN_ne (tgt := 167) X d_Mo_over_157 (by decide) (by omega) (by omega) (fun _ => ?_) (fun h => absurd h (by omega))
                refine V.iload_n X d_Mo_over_167 rfl ?_
                refine V.iconst (v := nI 5) X d_Mo_over_168 (by decide +kernel) ?_
                refine V.cmpN_ne (tgt := 182) X d_Mo_over_169 (by decide) (by omega) (by omega) (fun h => absurd h (by omega)) (fun _ => ?_)
                refine V.aload_n X d_Mo_over_172 rfl ?_
                refine V.dup X d_Mo_over_173 rfl ?_
                refine g_Mo_pc (x := (r_pc S)) X (rw_pc_level _ _) k_Mo_300 d_Mo_over_174 ?_
                refine V.iconst (v := nI 1) X d_Mo_over_177 (by decide +kernel) ?_
                refine V.iadd X d_Mo_over_178 (nI_add _ _) ?_
                refine p_Mo_pc X k_Mo_300 d_Mo_over_179 ?_
                refine V.iload_n X d_Mo_over_182 rfl ?_
                refine V.bipush (v := nI 7) X d_Mo_over_183 (by decide +kernel) ?_
                refine V.cmpN_ne (tgt := 229) X d_Mo_over_185 (by decide) (by omega) (by omega) (fun _ => ?_) (fun h => absurd h (by omega))
                refine V.goto (tgt := 2) X d_Mo_over_229 (by decide) ?_
                refine V.pick [0, 1] rfl ?_
                refine V.lvs (lv' := [(0, .ref (b 0)), (1, .int (nI 1))]) rfl ?_
                exact ih  (w_pc (w_level S (va_up (r_level S) t3 (((r_level S) t3) - 1))) ((r_pc S) + 1)) hres
              · replace hres := or_t hres h130_30
                refine V.aload_n X d_Mo_over_133 rfl ?_
                refine V.dup X d_Mo_over_134 rfl ?_
                refine g_Mo_pc (x := (r_pc S)) X rfl k_Mo_300 d_Mo_over_135 ?_
                refine V.iconst (v := nI 1) X d_Mo_over_138 (by decide +kernel) ?_
                refine V.iadd X d_Mo_over_139 (nI_add _ _) ?_
                refine p_Mo_pc X k_Mo_300 d_Mo_over_140 ?_
                subst hres
                exact V.vret X d_Mo_over_143 rfl rfl
          · replace hres := or_t hres h24_6
            refine V.aload_n X d_Mo_over_27 rfl ?_
            refine g_Mo_pKind X k_Mo_32 d_Mo_over_28 ?_
            refine V.aload_n X d_Mo_over_31 rfl ?_
            refine g_Mo_pc (x := (r_pc S)) X rfl k_Mo_300 d_Mo_over_32 ?_
            obtain ⟨g38, hres⟩ := hres
            refine l_Mo_pKind (x := ((r_pKind S) (r_pc S))) X g38 (congrFun rfl _) d_Mo_over_35 ?_
            refine V.bipush (v := nI 59) X d_Mo_over_36 (by decide +kernel) ?_
            obtain ⟨g40, hres⟩ := hres
            refine V.cmpN_ne (tgt := 52) X d_Mo_over_38 (by decide) (by omega) (by omega) (fun h38_39 => ?_) (fun h38_39 => ?_)
            · replace hres := or_f hres h38_39
              refine V.aload_n X d_Mo_over_52 rfl ?_
              refine V.aload_n X d_Mo_over_53 rfl ?_
              refine g_Mo_back X k_Mo_102 d_Mo_over_54 ?_
              refine V.iload_n X d_Mo_over_57 rfl ?_
              obtain ⟨g41, hres⟩ := hres
              refine l_Mo_back (x := ((r_back S) t3)) X g41 (congrFun rfl _) d_Mo_over_58 ?_
              refine p_Mo_pc X k_Mo_300 d_Mo_over_59 ?_
              refine V.aload_n X d_Mo_over_62 rfl ?_
              refine V.dup X d_Mo_over_63 rfl ?_
              refine g_Mo_frame (x := (r_frame S)) X (rw_frame_pc _ _) k_Mo_288 d_Mo_over_64 ?_
              refine V.top (v' := .int (nI t3)) (by rw [qt3]; rfl) ?_
              refine V.iconst (v := nI 1) X d_Mo_over_67 (by decide +kernel) ?_
              refine V.isub X d_Mo_over_68 (predO_sub _) ?_
              refine p_Mo_frame X k_Mo_288 d_Mo_over_69 ?_
              refine V.goto (tgt := 2) X d_Mo_over_72 (by decide) ?_
              refine V.pick [0, 1] rfl ?_
              refine V.lvs (lv' := [(0, .ref (b 0)), (1, .int (nI 1))]) rfl ?_
              exact ih  (w_frame (w_pc S ((r_back S) t3)) (predO t3)) hres
            · replace hres := or_t hres h38_39
              refine V.aload_n X d_Mo_over_41 rfl ?_
              refine V.dup X d_Mo_over_42 rfl ?_
              refine g_Mo_pc (x := (r_pc S)) X rfl k_Mo_300 d_Mo_over_43 ?_
              refine V.iconst (v := nI 1) X d_Mo_over_46 (by decide +kernel) ?_
              refine V.iadd X d_Mo_over_47 (nI_add _ _) ?_
              refine p_Mo_pc X k_Mo_300 d_Mo_over_48 ?_
              subst hres
              exact V.vret X d_Mo_over_51 rfl rfl
  refine V.lvs (lv' := [(0, .ref (b 0))]) rfl ?_
  refine V.iconst (v := nI 1) X d_Mo_over_0 (by decide +kernel) ?_
  refine V.istore_n (lv' := [(0, .ref (b 0)), (1, .int (nI 1))]) X d_Mo_over_1 (by decide) rfl ?_
  refine V.lvs (lv' := [(0, .ref (b 0)), (1, .int (nI 1))]) rfl ?_
  obtain ⟨n, hres⟩ := hres
  exact (go n)  S hres
def mo_test (p1 : Nat) (S : MS) (S' : MS) : Prop := ∃ S1, mo_step S S1 ∧ ((r_failure S1) < 2147483648 ∧ (((r_failure S1) = 0 ∧ (∃ v4 S4, mo_holds (w_pc S1 (p1 + 1)) v4 S4 ∧ ((r_failure S4) < 2147483648 ∧ (((r_failure S4) = 0 ∧ ((v4 = true ∧ (p1 < 155 ∧ (∃ S23, mo_push ((r_pKind S4) p1) p1 (w_pc S4 ((r_pc S4) + 1)) S23 ∧ (S' = S23)))) ∨ (¬ v4 = true ∧ (p1 < 155 ∧ (((r_pKind S4) p1) < 2147483648 ∧ ((((r_pKind S4) p1) = 7 ∧ (p1 < 155 ∧ (((r_pNext S4) p1) < 155 ∧ (((r_pKind S4) ((r_pNext S4) p1)) < 2147483648 ∧ ((((r_pKind S4) ((r_pNext S4) p1)) = 9 ∧ (p1 < 155 ∧ (∃ S20, mo_push 9 ((r_pNext S4) p1) (w_pc S4 ((r_pc S4) + 1)) S20 ∧ (p1 < 155 ∧ (S' = (w_pc S20 (((r_pNext S20) p1) + 1))))))) ∨ (¬ ((r_pKind S4) ((r_pNext S4) p1)) = 9 ∧ (p1 < 155 ∧ (∃ S18, mo_over (w_pc (w_pc S4 ((r_pc S4) + 1)) ((r_pNext S4) p1)) S18 ∧ (S' = S18))))))))) ∨ (¬ ((r_pKind S4) p1) = 7 ∧ (p1 < 155 ∧ (∃ S12, mo_over (w_pc (w_pc S4 ((r_pc S4) + 1)) ((r_pNext S4) p1)) S12 ∧ (S' = S12)))))))))) ∨ (¬ (r_failure S4) = 0 ∧ (S' = S4)))))) ∨ (¬ (r_failure S1) = 0 ∧ (S' = S1))))
set_option maxHeartbeats 4000000 in
set_option maxRecDepth 100000 in
theorem c_Mo_test {l : Launch} {z : Zt} {b : Nat → Nat} {S : MS} {p1 : Nat} {S' : MS} (h : Nat) (hres : mo_test p1 S S') : XC l (Gz z) (h + 5) y_Mo_test b_Mo_test 3 none [.ref (b 0), .int (nI p1)] (mw z b S) (.inl none) (mw z b S') := by
  rw [mo_test] at hres
  refine XC.ofV (by decide +kernel) rfl ?_
  intro p e s m below meth c X hnm
  refine V.lvs (lv' := [(0, .ref (b 0)), (1, .int (nI p1))]) rfl ?_
  refine V.aload_n X d_Mo_test_0 rfl ?_
  obtain ⟨S1, x1, hres⟩ := hres
  refine V.callV0 X (c_Mo_step (h + 3) x1) Y_Mo_step k_Mo_330 0 rfl rfl rfl rfl rfl (Rok.lt (by omega)) d_Mo_test_1 ?_
  refine V.aload_n X d_Mo_test_4 rfl ?_
  refine g_Mo_failure (x := (r_failure S1)) X rfl k_Mo_297 d_Mo_test_5 ?_
  obtain ⟨g3, hres⟩ := hres
  refine V.ifN_eq (tgt := 12) X d_Mo_test_8 (by decide) (by omega) (fun h8_2 => ?_) (fun h8_2 => ?_)
  · replace hres := or_t hres h8_2
    refine V.aload_n X d_Mo_test_12 rfl ?_
    refine V.iload_n X d_Mo_test_13 rfl ?_
    refine V.iconst (v := nI 1) X d_Mo_test_14 (by decide +kernel) ?_
    refine V.iadd X d_Mo_test_15 (nI_add _ _) ?_
    refine p_Mo_pc X k_Mo_300 d_Mo_test_16 ?_
    refine V.aload_n X d_Mo_test_19 rfl ?_
    obtain ⟨v4, S4, x4, hres⟩ := hres
    refine V.callV1 X (c_Mo_holds (h + 0) x4) Y_Mo_holds k_Mo_333 0 rfl rfl rfl rfl rfl (Rok.lt (by omega)) d_Mo_test_20 ?_
    refine V.istore_n (lv' := [(0, .ref (b 0)), (1, .int (nI p1)), (2, .int (bI v4))]) X d_Mo_test_23 (by decide) rfl ?_
    refine V.aload_n X d_Mo_test_24 rfl ?_
    refine g_Mo_failure (x := (r_failure S4)) X rfl k_Mo_297 d_Mo_test_25 ?_
    obtain ⟨g6, hres⟩ := hres
    refine V.ifN_eq (tgt := 32) X d_Mo_test_28 (by decide) (by omega) (fun h28_5 => ?_) (fun h28_5 => ?_)
    · replace hres := or_t hres h28_5
      refine V.aload_n X d_Mo_test_32 rfl ?_
      refine V.dup X d_Mo_test_33 rfl ?_
      refine g_Mo_pc (x := (r_pc S4)) X rfl k_Mo_300 d_Mo_test_34 ?_
      refine V.iconst (v := nI 1) X d_Mo_test_37 (by decide +kernel) ?_
      refine V.iadd X d_Mo_test_38 (nI_add _ _) ?_
      refine p_Mo_pc X k_Mo_300 d_Mo_test_39 ?_
      refine V.iload_n X d_Mo_test_42 rfl ?_
      refine V.ifB_eq (tgt := 60) X d_Mo_test_43 (by decide) (fun h43_7 => ?_) (fun h43_7 => ?_)
      · replace hres := or_f hres (by rw [h43_7]; decide)
        refine V.aload_n X d_Mo_test_60 rfl ?_
        refine g_Mo_pKind X k_Mo_32 d_Mo_test_61 ?_
        refine V.iload_n X d_Mo_test_64 rfl ?_
        obtain ⟨g8, hres⟩ := hres
        refine l_Mo_pKind (x := ((r_pKind S4) p1)) X g8 (congrFun (rw_pKind_pc _ _) _) d_Mo_test_65 ?_
        refine V.bipush (v := nI 7) X d_Mo_test_66 (by decide +kernel) ?_
        obtain ⟨g10, hres⟩ := hres
        refine V.cmpN_ne (tgt := 114) X d_Mo_test_68 (by decide) (by omega) (by omega) (fun h68_9 => ?_) (fun h68_9 => ?_)
        · replace hres := or_f hres h68_9
          refine V.aload_n X d_Mo_test_114 rfl ?_
          refine V.aload_n X d_Mo_test_115 rfl ?_
          refine g_Mo_pNext X k_Mo_41 d_Mo_test_116 ?_
          refine V.iload_n X d_Mo_test_119 rfl ?_
          obtain ⟨g11, hres⟩ := hres
          refine l_Mo_pNext (x := ((r_pNext S4) p1)) X g11 (congrFun (rw_pNext_pc _ _) _) d_Mo_test_120 ?_
          refine p_Mo_pc X k_Mo_300 d_Mo_test_121 ?_
          refine V.aload_n X d_Mo_test_124 rfl ?_
          obtain ⟨S12, x12, hres⟩ := hres
          refine V.callV0 X (c_Mo_over (h + 3) x12) Y_Mo_over k_Mo_339 0 rfl rfl rfl rfl rfl (Rok.lt (by omega)) d_Mo_test_125 ?_
          subst hres
          exact V.vret X d_Mo_test_128 rfl rfl
        · replace hres := or_t hres h68_9
          refine V.aload_n X d_Mo_test_71 rfl ?_
          refine g_Mo_pKind X k_Mo_32 d_Mo_test_72 ?_
          refine V.aload_n X d_Mo_test_75 rfl ?_
          refine g_Mo_pNext X k_Mo_41 d_Mo_test_76 ?_
          refine V.iload_n X d_Mo_test_79 rfl ?_
          obtain ⟨g13, hres⟩ := hres
          refine l_Mo_pNext (x := ((r_pNext S4) p1)) X g13 (congrFun (rw_pNext_pc _ _) _) d_Mo_test_80 ?_
          obtain ⟨g14, hres⟩ := hres
          refine l_Mo_pKind (x := ((r_pKind S4) ((r_pNext S4) p1))) X g14 (congrFun (rw_pKind_pc _ _) _) d_Mo_test_81 ?_
          refine V.bipush (v := nI 9) X d_Mo_test_82 (by decide +kernel) ?_
          obtain ⟨g16, hres⟩ := hres
          refine V.cmpN_ne (tgt := 114) X d_Mo_test_84 (by decide) (by omega) (by omega) (fun h84_15 => ?_) (fun h84_15 => ?_)
          · replace hres := or_f hres h84_15
            refine V.aload_n X d_Mo_test_114 rfl ?_
            refine V.aload_n X d_Mo_test_115 rfl ?_
            refine g_Mo_pNext X k_Mo_41 d_Mo_test_116 ?_
            refine V.iload_n X d_Mo_test_119 rfl ?_
            obtain ⟨g17, hres⟩ := hres
            refine l_Mo_pNext (x := ((r_pNext S4) p1)) X g17 (congrFun (rw_pNext_pc _ _) _) d_Mo_test_120 ?_
            refine p_Mo_pc X k_Mo_300 d_Mo_test_121 ?_
            refine V.aload_n X d_Mo_test_124 rfl ?_
            obtain ⟨S18, x18, hres⟩ := hres
            refine V.callV0 X (c_Mo_over (h + 3) x18) Y_Mo_over k_Mo_339 0 rfl rfl rfl rfl rfl (Rok.lt (by omega)) d_Mo_test_125 ?_
            subst hres
            exact V.vret X d_Mo_test_128 rfl rfl
          · replace hres := or_t hres h84_15
            refine V.aload_n X d_Mo_test_87 rfl ?_
            refine V.bipush (v := nI 9) X d_Mo_test_88 (by decide +kernel) ?_
            refine V.aload_n X d_Mo_test_90 rfl ?_
            refine g_Mo_pNext X k_Mo_41 d_Mo_test_91 ?_
            refine V.iload_n X d_Mo_test_94 rfl ?_
            obtain ⟨g19, hres⟩ := hres
            refine l_Mo_pNext (x := ((r_pNext S4) p1)) X g19 (congrFun (rw_pNext_pc _ _) _) d_Mo_test_95 ?_
            obtain ⟨S20, x20, hres⟩ := hres
            refine V.callV0 X (c_Mo_push (h + 3) x20) Y_Mo_push k_Mo_336 0 rfl rfl rfl rfl rfl (Rok.lt (by omega)) d_Mo_test_96 ?_
            refine V.aload_n X d_Mo_test_99 rfl ?_
            refine V.aload_n X d_Mo_test_100 rfl ?_
            refine g_Mo_pNext X k_Mo_41 d_Mo_test_101 ?_
            refine V.iload_n X d_Mo_test_104 rfl ?_
            obtain ⟨g21, hres⟩ := hres
            refine l_Mo_pNext (x := ((r_pNext S20) p1)) X g21 (congrFun rfl _) d_Mo_test_105 ?_
            refine V.iconst (v := nI 1) X d_Mo_test_106 (by decide +kernel) ?_
            refine V.iadd X d_Mo_test_107 (nI_add _ _) ?_
            refine p_Mo_pc X k_Mo_300 d_Mo_test_108 ?_
            refine V.goto (tgt := 128) X d_Mo_test_111 (by decide) ?_
            subst hres
            exact V.vret X d_Mo_test_128 rfl rfl
      · replace hres := or_t hres h43_7
        refine V.aload_n X d_Mo_test_46 rfl ?_
        refine V.aload_n X d_Mo_test_47 rfl ?_
        refine g_Mo_pKind X k_Mo_32 d_Mo_test_48 ?_
        refine V.iload_n X d_Mo_test_51 rfl ?_
        obtain ⟨g22, hres⟩ := hres
        refine l_Mo_pKind (x := ((r_pKind S4) p1)) X g22 (congrFun (rw_pKind_pc _ _) _) d_Mo_test_52 ?_
        refine V.iload_n X d_Mo_test_53 rfl ?_
        obtain ⟨S23, x23, hres⟩ := hres
        refine V.callV0 X (c_Mo_push (h + 3) x23) Y_Mo_push k_Mo_336 0 rfl rfl rfl rfl rfl (Rok.lt (by omega)) d_Mo_test_54 ?_
        refine V.goto (tgt := 128) X d_Mo_test_57 (by decide) ?_
        subst hres
        exact V.vret X d_Mo_test_128 rfl rfl
    · replace hres := or_f hres h28_5
      subst hres
      exact V.vret X d_Mo_test_31 rfl rfl
  · replace hres := or_f hres h8_2
    subst hres
    exact V.vret X d_Mo_test_11 rfl rfl
def mo_statement (S : MS) (S' : MS) : Prop := (r_pc S) < 155 ∧ (((r_pKind S) (r_pc S)) < 2147483648 ∧ ((((r_pKind S) (r_pc S)) = 1 ∧ (∃ S3, mo_step S S3 ∧ ((r_failure S3) < 2147483648 ∧ (((r_failure S3) = 0 ∧ ((r_pc S) < 155 ∧ (((r_pMeans S3) (r_pc S)) < 18 ∧ (((r_pSort S3) ((r_pMeans S3) (r_pc S))) < 2147483648 ∧ ((((r_pSort S3) ((r_pMeans S3) (r_pc S))) = 3 ∧ ((r_pc S) < 155 ∧ (∃ S18, mo_enterCall ((r_pMeans S3) (r_pc S)) (w_pc S3 ((r_pc S) + 1)) S18 ∧ (S' = S18)))) ∨ (¬ ((r_pSort S3) ((r_pMeans S3) (r_pc S))) = 3 ∧ (∃ v10 S10, mo_evaluate (w_pc S3 ((r_pc S) + 2)) v10 S10 ∧ ((r_failure S10) < 2147483648 ∧ (((r_failure S10) = 0 ∧ ((r_pc S) < 155 ∧ (∃ v14 S14, mo_place ((r_pMeans S10) (r_pc S)) S10 v14 S14 ∧ (v14 < 132 ∧ (∃ S16, mo_over (w_cell S14 (upd (r_cell S14) v14 v10)) S16 ∧ (S' = S16)))))) ∨ (¬ (r_failure S10) = 0 ∧ (S' = S10))))))))))) ∨ (¬ (r_failure S3) = 0 ∧ (S' = S3)))))) ∨ (¬ ((r_pKind S) (r_pc S)) = 1 ∧ ((((r_pKind S) (r_pc S)) = 5 ∧ (∃ S19, mo_push 5 (r_pc S) S S19 ∧ (S' = (w_pc S19 ((r_pc S19) + 1))))) ∨ (¬ ((r_pKind S) (r_pc S)) = 5 ∧ ((((r_pKind S) (r_pc S)) = 7 ∧ (∃ S20, mo_test (r_pc S) S S20 ∧ (S' = S20))) ∨ (¬ ((r_pKind S) (r_pc S)) = 7 ∧ ((((r_pKind S) (r_pc S)) = 10 ∧ (∃ S21, mo_test (r_pc S) S S21 ∧ (S' = S21))) ∨ (¬ ((r_pKind S) (r_pc S)) = 10 ∧ ((((r_pKind S) (r_pc S)) = 12 ∧ (∃ S22, mo_step S S22 ∧ ((r_failure S22) < 2147483648 ∧ (((r_failure S22) = 0 ∧ (∃ v25 S25, mo_evaluate (w_pc S22 ((r_pc S) + 2)) v25 S25 ∧ ((r_failure S25) < 2147483648 ∧ (((r_failure S25) = 0 ∧ (∃ S28, mo_write v25 S25 S28 ∧ (∃ S29, mo_over (w_pc S28 ((r_pc S28) + 1)) S29 ∧ (S' = S29)))) ∨ (¬ (r_failure S25) = 0 ∧ (S' = S25)))))) ∨ (¬ (r_failure S22) = 0 ∧ (S' = S22)))))) ∨ (¬ ((r_pKind S) (r_pc S)) = 12 ∧ (∃ S30, mo_over S S30 ∧ (S' = S30)))))))))))))
set_option maxHeartbeats 4000000 in
set_option maxRecDepth 100000 in
theorem c_Mo_statement {l : Launch} {z : Zt} {b : Nat → Nat} {S : MS} {S' : MS} (h : Nat) (hres : mo_statement S S') : XC l (Gz z) (h + 6) y_Mo_statement b_Mo_statement 4 none [.ref (b 0)] (mw z b S) (.inl none) (mw z b S') := by
  rw [mo_statement] at hres
  refine XC.ofV (by decide +kernel) rfl ?_
  intro p e s m below meth c X hnm
  refine V.lvs (lv' := [(0, .ref (b 0))]) rfl ?_
  refine V.aload_n X d_Mo_statement_0 rfl ?_
  refine g_Mo_pc (x := (r_pc S)) X rfl k_Mo_300 d_Mo_statement_1 ?_
  refine V.istore_n (lv' := [(0, .ref (b 0)), (1, .int (nI (r_pc S)))]) X d_Mo_statement_4 (by decide) rfl ?_
  refine V.aload_n X d_Mo_statement_5 rfl ?_
  refine g_Mo_pKind X k_Mo_32 d_Mo_statement_6 ?_
  refine V.iload_n X d_Mo_statement_9 rfl ?_
  obtain ⟨g1, hres⟩ := hres
  refine l_Mo_pKind (x := ((r_pKind S) (r_pc S))) X g1 (congrFun rfl _) d_Mo_statement_10 ?_
  obtain ⟨g2, hres⟩ := hres
  rcases hres with ⟨w1, hres⟩ | ⟨w1, hres⟩
  · refine V.top (v' := .int (nI 1)) (by rw [w1]) ?_
    refine V.tableIn (off := 61) (tgt := 72) X d_Mo_statement_11 (by decide +kernel) (by decide +kernel) (by decide +kernel) (by decide) ?_
    refine V.aload_n X d_Mo_statement_72 rfl ?_
    obtain ⟨S3, x3, hres⟩ := hres
    refine V.callV0 X (c_Mo_step (h + 4) x3) Y_Mo_step k_Mo_330 0 rfl rfl rfl rfl rfl (Rok.lt (by omega)) d_Mo_statement_73 ?_
    refine V.aload_n X d_Mo_statement_76 rfl ?_
    refine g_Mo_failure (x := (r_failure S3)) X rfl k_Mo_297 d_Mo_statement_77 ?_
    obtain ⟨g5, hres⟩ := hres
    refine V.ifN_eq (tgt := 84) X d_Mo_statement_80 (by decide) (by omega) (fun h80_4 => ?_) (fun h80_4 => ?_)
    · replace hres := or_t hres h80_4
      refine V.aload_n X d_Mo_statement_84 rfl ?_
      refine g_Mo_pSort X k_Mo_69 d_Mo_statement_85 ?_
      refine V.aload_n X d_Mo_statement_88 rfl ?_
      refine g_Mo_pMeans X k_Mo_38 d_Mo_statement_89 ?_
      refine V.iload_n X d_Mo_statement_92 rfl ?_
      obtain ⟨g6, hres⟩ := hres
      refine l_Mo_pMeans (x := ((r_pMeans S3) (r_pc S))) X g6 (congrFun rfl _) d_Mo_statement_93 ?_
      obtain ⟨g7, hres⟩ := hres
      refine l_Mo_pSort (x := ((r_pSort S3) ((r_pMeans S3) (r_pc S)))) X g7 (congrFun rfl _) d_Mo_statement_94 ?_
      refine V.iconst (v := nI 3) X d_Mo_statement_95 (by decide +kernel) ?_
      obtain ⟨g9, hres⟩ := hres
      refine V.cmpN_ne (tgt := 117) X d_Mo_statement_96 (by decide) (by omega) (by omega) (fun h96_8 => ?_) (fun h96_8 => ?_)
      · replace hres := or_f hres h96_8
        refine V.aload_n X d_Mo_statement_117 rfl ?_
        refine V.iload_n X d_Mo_statement_118 rfl ?_
        refine V.iconst (v := nI 2) X d_Mo_statement_119 (by decide +kernel) ?_
        refine V.iadd X d_Mo_statement_120 (nI_add _ _) ?_
        refine p_Mo_pc X k_Mo_300 d_Mo_statement_121 ?_
        refine V.aload_n X d_Mo_statement_124 rfl ?_
        obtain ⟨v10, S10, x10, hres⟩ := hres
        refine V.callV1 X (c_Mo_evaluate (h + 2) x10) Y_Mo_evaluate k_Mo_318 0 rfl rfl rfl rfl rfl (Rok.lt (by omega)) d_Mo_statement_125 ?_
        refine V.istore_n (lv' := [(0, .ref (b 0)), (1, .int (nI (r_pc S))), (2, .int v10)]) X d_Mo_statement_128 (by decide) rfl ?_
        refine V.aload_n X d_Mo_statement_129 rfl ?_
        refine g_Mo_failure (x := (r_failure S10)) X rfl k_Mo_297 d_Mo_statement_130 ?_
        obtain ⟨g12, hres⟩ := hres
        refine V.ifN_eq (tgt := 137) X d_Mo_statement_133 (by decide) (by omega) (fun h133_11 => ?_) (fun h133_11 => ?_)
        · replace hres := or_t hres h133_11
          refine V.aload_n X d_Mo_statement_137 rfl ?_
          refine g_Mo_cell X k_Mo_90 d_Mo_statement_138 ?_
          refine V.aload_n X d_Mo_statement_141 rfl ?_
          refine V.aload_n X d_Mo_statement_142 rfl ?_
          refine g_Mo_pMeans X k_Mo_38 d_Mo_statement_143 ?_
          refine V.iload_n X d_Mo_statement_146 rfl ?_
          obtain ⟨g13, hres⟩ := hres
          refine l_Mo_pMeans (x := ((r_pMeans S10) (r_pc S))) X g13 (congrFun rfl _) d_Mo_statement_147 ?_
          obtain ⟨v14, S14, x14, hres⟩ := hres
          refine V.callV1 X (c_Mo_place (h + 3) x14) Y_Mo_place k_Mo_306 0 rfl rfl rfl rfl rfl (Rok.lt (by omega)) d_Mo_statement_148 ?_
          refine V.iload_n X d_Mo_statement_151 rfl ?_
          obtain ⟨g15, hres⟩ := hres
          refine s_Mo_cell (g := (r_cell S14)) X g15 rfl d_Mo_statement_152 ?_
          refine V.aload_n X d_Mo_statement_153 rfl ?_
          obtain ⟨S16, x16, hres⟩ := hres
          refine V.callV0 X (c_Mo_over (h + 4) x16) Y_Mo_over k_Mo_339 0 rfl rfl rfl rfl rfl (Rok.lt (by omega)) d_Mo_statement_154 ?_
          subst hres
          exact V.vret X d_Mo_statement_157 rfl rfl
        · replace hres := or_f hres h133_11
          subst hres
          exact V.vret X d_Mo_statement_136 rfl rfl
      · replace hres := or_t hres h96_8
        refine V.aload_n X d_Mo_statement_99 rfl ?_
        refine V.iload_n X d_Mo_statement_100 rfl ?_
        refine V.iconst (v := nI 1) X d_Mo_statement_101 (by decide +kernel) ?_
        refine V.iadd X d_Mo_statement_102 (nI_add _ _) ?_
        refine p_Mo_pc X k_Mo_300 d_Mo_statement_103 ?_
        refine V.aload_n X d_Mo_statement_106 rfl ?_
        refine V.aload_n X d_Mo_statement_107 rfl ?_
        refine g_Mo_pMeans X k_Mo_38 d_Mo_statement_108 ?_
        refine V.iload_n X d_Mo_statement_111 rfl ?_
        obtain ⟨g17, hres⟩ := hres
        refine l_Mo_pMeans (x := ((r_pMeans S3) (r_pc S))) X g17 (congrFun (rw_pMeans_pc _ _) _) d_Mo_statement_112 ?_
        obtain ⟨S18, x18, hres⟩ := hres
        refine V.callV0 X (c_Mo_enterCall (h + 1) x18) Y_Mo_enterCall k_Mo_342 0 rfl rfl rfl rfl rfl (Rok.lt (by omega)) d_Mo_statement_113 ?_
        subst hres
        exact V.vret X d_Mo_statement_116 rfl rfl
    · replace hres := or_f hres h80_4
      subst hres
      exact V.vret X d_Mo_statement_83 rfl rfl
  · rcases hres with ⟨w5, hres⟩ | ⟨w5, hres⟩
    · refine V.top (v' := .int (nI 5)) (by rw [w5]) ?_
      refine V.tableIn (off := 199) (tgt := 210) X d_Mo_statement_11 (by decide +kernel) (by decide +kernel) (by decide +kernel) (by decide) ?_
      refine V.aload_n X d_Mo_statement_210 rfl ?_
      refine V.iconst (v := nI 5) X d_Mo_statement_211 (by decide +kernel) ?_
      refine V.iload_n X d_Mo_statement_212 rfl ?_
      obtain ⟨S19, x19, hres⟩ := hres
      refine V.callV0 X (c_Mo_push (h + 4) x19) Y_Mo_push k_Mo_336 0 rfl rfl rfl rfl rfl (Rok.lt (by omega)) d_Mo_statement_213 ?_
      refine V.aload_n X d_Mo_statement_216 rfl ?_
      refine V.dup X d_Mo_statement_217 rfl ?_
      refine g_Mo_pc (x := (r_pc S19)) X rfl k_Mo_300 d_Mo_statement_218 ?_
      refine V.iconst (v := nI 1) X d_Mo_statement_221 (by decide +kernel) ?_
      refine V.iadd X d_Mo_statement_222 (nI_add _ _) ?_
      refine p_Mo_pc X k_Mo_300 d_Mo_statement_223 ?_
      subst hres
      exact V.vret X d_Mo_statement_226 rfl rfl
    · rcases hres with ⟨w7, hres⟩ | ⟨w7, hres⟩
      · refine V.top (v' := .int (nI 7)) (by rw [w7]) ?_
        refine V.tableIn (off := 216) (tgt := 227) X d_Mo_statement_11 (by decide +kernel) (by decide +kernel) (by decide +kernel) (by decide) ?_
        refine V.aload_n X d_Mo_statement_227 rfl ?_
        refine V.iload_n X d_Mo_statement_228 rfl ?_
        obtain ⟨S20, x20, hres⟩ := hres
        refine V.callV0 X (c_Mo_test (h + 0) x20) Y_Mo_test k_Mo_348 0 rfl rfl rfl rfl rfl (Rok.lt (by omega)) d_Mo_statement_229 ?_
        subst hres
        exact V.vret X d_Mo_statement_232 rfl rfl
      · rcases hres with ⟨w10, hres⟩ | ⟨w10, hres⟩
        · refine V.top (v' := .int (nI 10)) (by rw [w10]) ?_
          refine V.tableIn (off := 216) (tgt := 227) X d_Mo_statement_11 (by decide +kernel) (by decide +kernel) (by decide +kernel) (by decide) ?_
          refine V.aload_n X d_Mo_statement_227 rfl ?_
          refine V.iload_n X d_Mo_statement_228 rfl ?_
          obtain ⟨S21, x21, hres⟩ := hres
          refine V.callV0 X (c_Mo_test (h + 0) x21) Y_Mo_test k_Mo_348 0 rfl rfl rfl rfl rfl (Rok.lt (by omega)) d_Mo_statement_229 ?_
          subst hres
          exact V.vret X d_Mo_statement_232 rfl rfl
        · rcases hres with ⟨w12, hres⟩ | ⟨w12, hres⟩
          · refine V.top (v' := .int (nI 12)) (by rw [w12]) ?_
            refine V.tableIn (off := 147) (tgt := 158) X d_Mo_statement_11 (by decide +kernel) (by decide +kernel) (by decide +kernel) (by decide) ?_
            refine V.aload_n X d_Mo_statement_158 rfl ?_
            obtain ⟨S22, x22, hres⟩ := hres
            refine V.callV0 X (c_Mo_step (h + 4) x22) Y_Mo_step k_Mo_330 0 rfl rfl rfl rfl rfl (Rok.lt (by omega)) d_Mo_statement_159 ?_
            refine V.aload_n X d_Mo_statement_162 rfl ?_
            refine g_Mo_failure (x := (r_failure S22)) X rfl k_Mo_297 d_Mo_statement_163 ?_
            obtain ⟨g24, hres⟩ := hres
            refine V.ifN_eq (tgt := 170) X d_Mo_statement_166 (by decide) (by omega) (fun h166_23 => ?_) (fun h166_23 => ?_)
            · replace hres := or_t hres h166_23
              refine V.aload_n X d_Mo_statement_170 rfl ?_
              refine V.iload_n X d_Mo_statement_171 rfl ?_
              refine V.iconst (v := nI 2) X d_Mo_statement_172 (by decide +kernel) ?_
              refine V.iadd X d_Mo_statement_173 (nI_add _ _) ?_
              refine p_Mo_pc X k_Mo_300 d_Mo_statement_174 ?_
              refine V.aload_n X d_Mo_statement_177 rfl ?_
              obtain ⟨v25, S25, x25, hres⟩ := hres
              refine V.callV1 X (c_Mo_evaluate (h + 2) x25) Y_Mo_evaluate k_Mo_318 0 rfl rfl rfl rfl rfl (Rok.lt (by omega)) d_Mo_statement_178 ?_
              refine V.istore_n (lv' := [(0, .ref (b 0)), (1, .int (nI (r_pc S))), (3, .int v25)]) X d_Mo_statement_181 (by decide) rfl ?_
              refine V.aload_n X d_Mo_statement_182 rfl ?_
              refine g_Mo_failure (x := (r_failure S25)) X rfl k_Mo_297 d_Mo_statement_183 ?_
              obtain ⟨g27, hres⟩ := hres
              refine V.ifN_eq (tgt := 190) X d_Mo_statement_186 (by decide) (by omega) (fun h186_26 => ?_) (fun h186_26 => ?_)
              · replace hres := or_t hres h186_26
                refine V.aload_n X d_Mo_statement_190 rfl ?_
                refine V.iload_n X d_Mo_statement_191 rfl ?_
                obtain ⟨S28, x28, hres⟩ := hres
                refine V.callV0 X (c_Mo_write (h + 4) x28) Y_Mo_write k_Mo_345 0 rfl rfl rfl rfl rfl (Rok.lt (by omega)) d_Mo_statement_192 ?_
                refine V.aload_n X d_Mo_statement_195 rfl ?_
                refine V.dup X d_Mo_statement_196 rfl ?_
                refine g_Mo_pc (x := (r_pc S28)) X rfl k_Mo_300 d_Mo_statement_197 ?_
                refine V.iconst (v := nI 1) X d_Mo_statement_200 (by decide +kernel) ?_
                refine V.iadd X d_Mo_statement_201 (nI_add _ _) ?_
                refine p_Mo_pc X k_Mo_300 d_Mo_statement_202 ?_
                refine V.aload_n X d_Mo_statement_205 rfl ?_
                obtain ⟨S29, x29, hres⟩ := hres
                refine V.callV0 X (c_Mo_over (h + 4) x29) Y_Mo_over k_Mo_339 0 rfl rfl rfl rfl rfl (Rok.lt (by omega)) d_Mo_statement_206 ?_
                subst hres
                exact V.vret X d_Mo_statement_209 rfl rfl
              · replace hres := or_f hres h186_26
                subst hres
                exact V.vret X d_Mo_statement_189 rfl rfl
            · replace hres := or_f hres h166_23
              subst hres
              exact V.vret X d_Mo_statement_169 rfl rfl
          · by_cases wo : ((r_pKind S) (r_pc S)) < 1 ∨ 12 < ((r_pKind S) (r_pc S))
            · refine V.tableOut (tgt := 233) X d_Mo_statement_11 (by rw [nI_toInt (by omega)]; omega) (by decide) ?_
              refine V.aload_n X d_Mo_statement_233 rfl ?_
              obtain ⟨S30, x30, hres⟩ := hres
              refine V.callV0 X (c_Mo_over (h + 4) x30) Y_Mo_over k_Mo_339 0 rfl rfl rfl rfl rfl (Rok.lt (by omega)) d_Mo_statement_234 ?_
              subst hres
              exact V.vret X d_Mo_statement_237 rfl rfl
            · rcases (show ((r_pKind S) (r_pc S)) = 2 ∨ ((r_pKind S) (r_pc S)) = 3 ∨ ((r_pKind S) (r_pc S)) = 4 ∨ ((r_pKind S) (r_pc S)) = 6 ∨ ((r_pKind S) (r_pc S)) = 8 ∨ ((r_pKind S) (r_pc S)) = 9 ∨ ((r_pKind S) (r_pc S)) = 11 by omega) with wq | wq | wq | wq | wq | wq | wq
              · refine V.top (v' := .int (nI 2)) (by rw [wq]) ?_
                refine V.tableIn (off := 222) (tgt := 233) X d_Mo_statement_11 (by decide +kernel) (by decide +kernel) (by decide +kernel) (by decide) ?_
                refine V.aload_n X d_Mo_statement_233 rfl ?_
                obtain ⟨S31, x31, hres⟩ := hres
                refine V.callV0 X (c_Mo_over (h + 4) x31) Y_Mo_over k_Mo_339 0 rfl rfl rfl rfl rfl (Rok.lt (by omega)) d_Mo_statement_234 ?_
                subst hres
                exact V.vret X d_Mo_statement_237 rfl rfl
              · refine V.top (v' := .int (nI 3)) (by rw [wq]) ?_
                refine V.tableIn (off := 222) (tgt := 233) X d_Mo_statement_11 (by decide +kernel) (by decide +kernel) (by decide +kernel) (by decide) ?_
                refine V.aload_n X d_Mo_statement_233 rfl ?_
                obtain ⟨S32, x32, hres⟩ := hres
                refine V.callV0 X (c_Mo_over (h + 4) x32) Y_Mo_over k_Mo_339 0 rfl rfl rfl rfl rfl (Rok.lt (by omega)) d_Mo_statement_234 ?_
                subst hres
                exact V.vret X d_Mo_statement_237 rfl rfl
              · refine V.top (v' := .int (nI 4)) (by rw [wq]) ?_
                refine V.tableIn (off := 222) (tgt := 233) X d_Mo_statement_11 (by decide +kernel) (by decide +kernel) (by decide +kernel) (by decide) ?_
                refine V.aload_n X d_Mo_statement_233 rfl ?_
                obtain ⟨S33, x33, hres⟩ := hres
                refine V.callV0 X (c_Mo_over (h + 4) x33) Y_Mo_over k_Mo_339 0 rfl rfl rfl rfl rfl (Rok.lt (by omega)) d_Mo_statement_234 ?_
                subst hres
                exact V.vret X d_Mo_statement_237 rfl rfl
              · refine V.top (v' := .int (nI 6)) (by rw [wq]) ?_
                refine V.tableIn (off := 222) (tgt := 233) X d_Mo_statement_11 (by decide +kernel) (by decide +kernel) (by decide +kernel) (by decide) ?_
                refine V.aload_n X d_Mo_statement_233 rfl ?_
                obtain ⟨S34, x34, hres⟩ := hres
                refine V.callV0 X (c_Mo_over (h + 4) x34) Y_Mo_over k_Mo_339 0 rfl rfl rfl rfl rfl (Rok.lt (by omega)) d_Mo_statement_234 ?_
                subst hres
                exact V.vret X d_Mo_statement_237 rfl rfl
              · refine V.top (v' := .int (nI 8)) (by rw [wq]) ?_
                refine V.tableIn (off := 222) (tgt := 233) X d_Mo_statement_11 (by decide +kernel) (by decide +kernel) (by decide +kernel) (by decide) ?_
                refine V.aload_n X d_Mo_statement_233 rfl ?_
                obtain ⟨S35, x35, hres⟩ := hres
                refine V.callV0 X (c_Mo_over (h + 4) x35) Y_Mo_over k_Mo_339 0 rfl rfl rfl rfl rfl (Rok.lt (by omega)) d_Mo_statement_234 ?_
                subst hres
                exact V.vret X d_Mo_statement_237 rfl rfl
              · refine V.top (v' := .int (nI 9)) (by rw [wq]) ?_
                refine V.tableIn (off := 222) (tgt := 233) X d_Mo_statement_11 (by decide +kernel) (by decide +kernel) (by decide +kernel) (by decide) ?_
                refine V.aload_n X d_Mo_statement_233 rfl ?_
                obtain ⟨S36, x36, hres⟩ := hres
                refine V.callV0 X (c_Mo_over (h + 4) x36) Y_Mo_over k_Mo_339 0 rfl rfl rfl rfl rfl (Rok.lt (by omega)) d_Mo_statement_234 ?_
                subst hres
                exact V.vret X d_Mo_statement_237 rfl rfl
              · refine V.top (v' := .int (nI 11)) (by rw [wq]) ?_
                refine V.tableIn (off := 222) (tgt := 233) X d_Mo_statement_11 (by decide +kernel) (by decide +kernel) (by decide +kernel) (by decide) ?_
                refine V.aload_n X d_Mo_statement_233 rfl ?_
                obtain ⟨S37, x37, hres⟩ := hres
                refine V.callV0 X (c_Mo_over (h + 4) x37) Y_Mo_over k_Mo_339 0 rfl rfl rfl rfl rfl (Rok.lt (by omega)) d_Mo_statement_234 ?_
                subst hres
                exact V.vret X d_Mo_statement_237 rfl rfl
def mo_run_go : Nat → Nat → Nat → MS → Nat → MS → Prop
  | 0, _, _, _, _, _ => False
  | n + 1, tag, x1N, S, v, S' => match tag with
    | 0 => x1N < 2147483648 ∧ ((12 ≤ x1N ∧ (mo_run_go n 1 0 (w_pc S ((r_pBody S) 0)) v S')) ∨ (¬ 12 ≤ x1N ∧ (x1N < 132 ∧ (mo_run_go n 0 (x1N + 1) (w_cell S (upd (r_cell S) x1N (nI 0))) v S'))))
    | 1 => ((r_frame S) = none ∧ ((r_failure S) < 2147483648 ∧ (((r_failure S) = 0 ∧ (v = (r_written S) ∧ S' = S)) ∨ (¬ (r_failure S) = 0 ∧ (∃ v8 S8, mo_raise (r_failure S) S v8 S8 ∧ (v = v8 ∧ S' = S8)))))) ∨ (∃ t5, (r_frame S) = some t5 ∧ (t5 < 2147483648 ∧ ((r_failure S) < 2147483648 ∧ (((r_failure S) = 0 ∧ (∃ S14, mo_statement S S14 ∧ (mo_run_go n 1 0 S14 v S'))) ∨ (¬ (r_failure S) = 0 ∧ (∃ v13 S13, mo_raise (r_failure S) S v13 S13 ∧ (v = v13 ∧ S' = S13)))))))
    | _ => False
def mo_run (S : MS) (v : Nat) (S' : MS) : Prop := ((r_program S) = true ∧ (∃ n, mo_run_go n 0 0 (w_level (w_back (w_outer (w_blockOf (w_frame (w_failure (w_written (w_lost (w_greatest (w_steps (w_thrown S 0) 0) 0) 0) 0) 0) (some 0)) (va_up (r_blockOf S) 0 0)) (va_up (r_outer S) 0 none)) (va_up (r_back S) 0 0)) (va_up (r_level S) 0 0)) v S')) ∨ (¬ (r_program S) = true ∧ (∃ v16 S16, mo_raise 1 (w_thrown S 0) v16 S16 ∧ (v = v16 ∧ S' = S16)))
set_option maxHeartbeats 4000000 in
set_option maxRecDepth 100000 in
theorem c_Mo_run {l : Launch} {z : Zt} {b : Nat → Nat} {S : MS} {v : Nat} {S' : MS} (h : Nat) (hres : mo_run S v S') : XC l (Gz z) (h + 7) y_Mo_run b_Mo_run 2 (some .int) [.ref (b 0)] (mw z b S) (.inl (some (.int (nI v)))) (mw z b S') := by
  rw [mo_run] at hres
  refine XC.ofV (by decide +kernel) rfl ?_
  intro p e s m below meth c X hnm
  have go : ∀ n : Nat, (∀ (x1N : Nat) (S : MS), mo_run_go n 0 x1N S v S' → V p l e (Rm (h + 7)) s m ([.ref (b 0)] : List Value).toArray below meth c (Gz z) 2 0 0 (XE below (Gz z) (.inl (some (.int (nI v)))) (mw z b S') ([.ref (b 0)] : List Value).toArray s) (mw z b S) 78 [(0, .ref (b 0)), (1, .int (nI x1N))] []) ∧ (∀ (S : MS), mo_run_go n 1 0 S v S' → V p l e (Rm (h + 7)) s m ([.ref (b 0)] : List Value).toArray below meth c (Gz z) 2 0 0 (XE below (Gz z) (.inl (some (.int (nI v)))) (mw z b S') ([.ref (b 0)] : List Value).toArray s) (mw z b S) 107 [(0, .ref (b 0))] []) := by
    intro n
    induction n with
    | zero =>
      refine ⟨?_, ?_⟩
      · intro x1N S hres
        exact absurd hres (by simp only [mo_run_go, not_false_eq_true])
      · intro S hres
        exact absurd hres (by simp only [mo_run_go, not_false_eq_true])
    | succ n ih =>
      refine ⟨?_, ?_⟩
      · intro x1N S hres
        rw [mo_run_go] at hres
        try dsimp only at hres
        refine V.iload_n X d_Mo_run_78 rfl ?_
        refine V.bipush (v := nI 12) X d_Mo_run_79 (by decide +kernel) ?_
        obtain ⟨g2, hres⟩ := hres
        refine V.cmpN_ge (tgt := 97) X d_Mo_run_81 (by decide) (by omega) (by omega) (fun h81_1 => ?_) (fun h81_1 => ?_)
        · replace hres := or_t hres h81_1
          refine V.aload_n X d_Mo_run_97 rfl ?_
          refine V.aload_n X d_Mo_run_98 rfl ?_
          refine g_Mo_pBody X k_Mo_81 d_Mo_run_99 ?_
          refine V.iconst (v := nI 0) X d_Mo_run_102 (by decide +kernel) ?_
          refine l_Mo_pBody (x := ((r_pBody S) 0)) X (by decide) (congrFun rfl _) d_Mo_run_103 ?_
          refine p_Mo_pc X k_Mo_300 d_Mo_run_104 ?_
          refine V.pick [0] rfl ?_
          refine V.lvs (lv' := [(0, .ref (b 0))]) rfl ?_
          exact ih.2  (w_pc S ((r_pBody S) 0)) hres
        · replace hres := or_f hres (Nat.not_le.mpr h81_1)
          refine V.aload_n X d_Mo_run_84 rfl ?_
          refine g_Mo_cell X k_Mo_90 d_Mo_run_85 ?_
          refine V.iload_n X d_Mo_run_88 rfl ?_
          refine V.iconst (v := nI 0) X d_Mo_run_89 (by decide +kernel) ?_
          obtain ⟨g3, hres⟩ := hres
          refine V.top (v' := .int (nI 0)) rfl ?_
          refine s_Mo_cell (g := (r_cell S)) X g3 rfl d_Mo_run_90 ?_
          refine V.iinc (lv' := [(0, .ref (b 0)), (1, .int (nI (x1N + 1)))]) X d_Mo_run_91 rfl (show _ + nI 1 = _ from nI_add _ 1) (by decide) rfl ?_
          refine V.goto (tgt := 78) X d_Mo_run_94 (by decide) ?_
          refine V.lvs (lv' := [(0, .ref (b 0)), (1, .int (nI (x1N + 1)))]) rfl ?_
          exact ih.1 _ (w_cell S (upd (r_cell S) x1N (nI 0))) hres
      · intro S hres
        rw [mo_run_go] at hres
        try dsimp only at hres
        refine V.aload_n X d_Mo_run_107 rfl ?_
        refine g_Mo_frame (x := (r_frame S)) X rfl k_Mo_288 d_Mo_run_108 ?_
        rcases hres with ⟨qt5, hres⟩ | ⟨t5, qt5, hres⟩
        · refine V.top (v' := .int (-1)) (by rw [qt5]; rfl) ?_
          refine V.if_lt (tgt := 128) X d_Mo_run_111 (by decide) (fun _ => ?_) (fun h => absurd (by decide) h)
          refine V.aload_n X d_Mo_run_128 rfl ?_
          refine g_Mo_failure (x := (r_failure S)) X rfl k_Mo_297 d_Mo_run_129 ?_
          obtain ⟨g7, hres⟩ := hres
          refine V.ifN_ne (tgt := 142) X d_Mo_run_132 (by decide) (by omega) (fun h132_6 => ?_) (fun h132_6 => ?_)
          · replace hres := or_f hres h132_6
            refine V.aload_n X d_Mo_run_142 rfl ?_
            refine V.aload_n X d_Mo_run_143 rfl ?_
            refine g_Mo_failure (x := (r_failure S)) X rfl k_Mo_297 d_Mo_run_144 ?_
            obtain ⟨v8, S8, x8, hres⟩ := hres
            refine V.callV1 X (c_Mo_raise (h + 5) x8) Y_Mo_raise k_Mo_135 0 rfl rfl rfl rfl rfl (Rok.lt (by omega)) d_Mo_run_147 ?_
            obtain ⟨rfl, rfl⟩ := hres
            exact V.iret X d_Mo_run_150 rfl rfl
          · replace hres := or_t hres h132_6
            refine V.aload_n X d_Mo_run_135 rfl ?_
            refine g_Mo_written (x := (r_written S)) X rfl k_Mo_324 d_Mo_run_136 ?_
            refine V.goto (tgt := 150) X d_Mo_run_139 (by decide) ?_
            obtain ⟨rfl, rfl⟩ := hres
            exact V.iret X d_Mo_run_150 rfl rfl
        · refine V.top (v' := .int (nI t5)) (by rw [qt5]; rfl) ?_
          obtain ⟨g9, hres⟩ := hres
          refine V.ifN_lt (tgt := 128) X d_Mo_run_111 (by decide) (by omega) ?_
          refine V.aload_n X d_Mo_run_114 rfl ?_
          refine g_Mo_failure (x := (r_failure S)) X rfl k_Mo_297 d_Mo_run_115 ?_
          obtain ⟨g11, hres⟩ := hres
          refine V.ifN_ne (tgt := 128) X d_Mo_run_118 (by decide) (by omega) (fun h118_10 => ?_) (fun h118_10 => ?_)
          · replace hres := or_f hres h118_10
            refine V.aload_n X d_Mo_run_128 rfl ?_
            refine g_Mo_failure (x := (r_failure S)) X rfl k_Mo_297 d_Mo_run_129 ?_
            refine V.ifN_ne (tgt := 142) X d_Mo_run_132 (by decide) (by omega) (fun _ => ?_) (fun h => absurd h (by omega))
            refine V.aload_n X d_Mo_run_142 rfl ?_
            refine V.aload_n X d_Mo_run_143 rfl ?_
            refine g_Mo_failure (x := (r_failure S)) X rfl k_Mo_297 d_Mo_run_144 ?_
            obtain ⟨v13, S13, x13, hres⟩ := hres
            refine V.callV1 X (c_Mo_raise (h + 5) x13) Y_Mo_raise k_Mo_135 0 rfl rfl rfl rfl rfl (Rok.lt (by omega)) d_Mo_run_147 ?_
            obtain ⟨rfl, rfl⟩ := hres
            exact V.iret X d_Mo_run_150 rfl rfl
          · replace hres := or_t hres h118_10
            refine V.aload_n X d_Mo_run_121 rfl ?_
            obtain ⟨S14, x14, hres⟩ := hres
            refine V.callV0 X (c_Mo_statement (h + 0) x14) Y_Mo_statement k_Mo_351 0 rfl rfl rfl rfl rfl (Rok.lt (by omega)) d_Mo_run_122 ?_
            refine V.goto (tgt := 107) X d_Mo_run_125 (by decide) ?_
            refine V.lvs (lv' := [(0, .ref (b 0))]) rfl ?_
            exact ih.2  S14 hres
  refine V.lvs (lv' := [(0, .ref (b 0))]) rfl ?_
  refine V.aload_n X d_Mo_run_0 rfl ?_
  refine V.iconst (v := nI 0) X d_Mo_run_1 (by decide +kernel) ?_
  refine p_Mo_thrown X k_Mo_132 d_Mo_run_2 ?_
  refine V.aload_n X d_Mo_run_5 rfl ?_
  refine g_Mo_program (x := (r_program S)) X (rw_program_thrown _ _) k_Mo_284 d_Mo_run_6 ?_
  refine V.ifB_ne (tgt := 18) X d_Mo_run_9 (by decide) (fun h9_15 => ?_) (fun h9_15 => ?_)
  · replace hres := or_t hres h9_15
    refine V.aload_n X d_Mo_run_18 rfl ?_
    refine V.iconst (v := nI 0) X d_Mo_run_19 (by decide +kernel) ?_
    refine p_Mo_steps X k_Mo_315 d_Mo_run_20 ?_
    refine V.aload_n X d_Mo_run_23 rfl ?_
    refine V.iconst (v := nI 0) X d_Mo_run_24 (by decide +kernel) ?_
    refine p_Mo_greatest X k_Mo_321 d_Mo_run_25 ?_
    refine V.aload_n X d_Mo_run_28 rfl ?_
    refine V.iconst (v := nI 0) X d_Mo_run_29 (by decide +kernel) ?_
    refine p_Mo_lost X k_Mo_327 d_Mo_run_30 ?_
    refine V.aload_n X d_Mo_run_33 rfl ?_
    refine V.iconst (v := nI 0) X d_Mo_run_34 (by decide +kernel) ?_
    refine p_Mo_written X k_Mo_324 d_Mo_run_35 ?_
    refine V.aload_n X d_Mo_run_38 rfl ?_
    refine V.iconst (v := nI 0) X d_Mo_run_39 (by decide +kernel) ?_
    refine p_Mo_failure X k_Mo_297 d_Mo_run_40 ?_
    refine V.aload_n X d_Mo_run_43 rfl ?_
    refine V.iconst (v := nI 0) X d_Mo_run_44 (by decide +kernel) ?_
    refine V.top (v' := .int (fI (some 0))) rfl ?_
    refine p_Mo_frame X k_Mo_288 d_Mo_run_45 ?_
    refine V.aload_n X d_Mo_run_48 rfl ?_
    refine g_Mo_blockOf X k_Mo_96 d_Mo_run_49 ?_
    refine V.iconst (v := nI 0) X d_Mo_run_52 (by decide +kernel) ?_
    refine V.iconst (v := nI 0) X d_Mo_run_53 (by decide +kernel) ?_
    refine s_Mo_blockOf (g := (r_blockOf S)) X (by decide) (Eq.trans (rw_blockOf_frame _ _) (Eq.trans (rw_blockOf_failure _ _) (Eq.trans (rw_blockOf_written _ _) (Eq.trans (rw_blockOf_lost _ _) (Eq.trans (rw_blockOf_greatest _ _) (Eq.trans (rw_blockOf_steps _ _) (rw_blockOf_thrown _ _))))))) d_Mo_run_54 ?_
    refine V.aload_n X d_Mo_run_55 rfl ?_
    refine g_Mo_outer X k_Mo_99 d_Mo_run_56 ?_
    refine V.iconst (v := nI 0) X d_Mo_run_59 (by decide +kernel) ?_
    refine V.iconst (v := -1) X d_Mo_run_60 (by decide +kernel) ?_
    refine V.top (v' := .int (fI none)) rfl ?_
    refine s_Mo_outer (g := (r_outer S)) X (by decide) (Eq.trans (rw_outer_blockOf _ _) (Eq.trans (rw_outer_frame _ _) (Eq.trans (rw_outer_failure _ _) (Eq.trans (rw_outer_written _ _) (Eq.trans (rw_outer_lost _ _) (Eq.trans (rw_outer_greatest _ _) (Eq.trans (rw_outer_steps _ _) (rw_outer_thrown _ _)))))))) d_Mo_run_61 ?_
    refine V.aload_n X d_Mo_run_62 rfl ?_
    refine g_Mo_back X k_Mo_102 d_Mo_run_63 ?_
    refine V.iconst (v := nI 0) X d_Mo_run_66 (by decide +kernel) ?_
    refine V.iconst (v := nI 0) X d_Mo_run_67 (by decide +kernel) ?_
    refine s_Mo_back (g := (r_back S)) X (by decide) (Eq.trans (rw_back_outer _ _) (Eq.trans (rw_back_blockOf _ _) (Eq.trans (rw_back_frame _ _) (Eq.trans (rw_back_failure _ _) (Eq.trans (rw_back_written _ _) (Eq.trans (rw_back_lost _ _) (Eq.trans (rw_back_greatest _ _) (Eq.trans (rw_back_steps _ _) (rw_back_thrown _ _))))))))) d_Mo_run_68 ?_
    refine V.aload_n X d_Mo_run_69 rfl ?_
    refine g_Mo_level X k_Mo_105 d_Mo_run_70 ?_
    refine V.iconst (v := nI 0) X d_Mo_run_73 (by decide +kernel) ?_
    refine V.iconst (v := nI 0) X d_Mo_run_74 (by decide +kernel) ?_
    refine s_Mo_level (g := (r_level S)) X (by decide) (Eq.trans (rw_level_back _ _) (Eq.trans (rw_level_outer _ _) (Eq.trans (rw_level_blockOf _ _) (Eq.trans (rw_level_frame _ _) (Eq.trans (rw_level_failure _ _) (Eq.trans (rw_level_written _ _) (Eq.trans (rw_level_lost _ _) (Eq.trans (rw_level_greatest _ _) (Eq.trans (rw_level_steps _ _) (rw_level_thrown _ _)))))))))) d_Mo_run_75 ?_
    refine V.iconst (v := nI 0) X d_Mo_run_76 (by decide +kernel) ?_
    refine V.istore_n (lv' := [(0, .ref (b 0)), (1, .int (nI 0))]) X d_Mo_run_77 (by decide) rfl ?_
    refine V.lvs (lv' := [(0, .ref (b 0)), (1, .int (nI 0))]) rfl ?_
    obtain ⟨n, hres⟩ := hres
    exact (go n).1 _ (w_level (w_back (w_outer (w_blockOf (w_frame (w_failure (w_written (w_lost (w_greatest (w_steps (w_thrown S 0) 0) 0) 0) 0) 0) (some 0)) (va_up (r_blockOf S) 0 0)) (va_up (r_outer S) 0 none)) (va_up (r_back S) 0 0)) (va_up (r_level S) 0 0)) hres
  · replace hres := or_f hres (by rw [h9_15]; decide)
    refine V.aload_n X d_Mo_run_12 rfl ?_
    refine V.iconst (v := nI 1) X d_Mo_run_13 (by decide +kernel) ?_
    obtain ⟨v16, S16, x16, hres⟩ := hres
    refine V.callV1 X (c_Mo_raise (h + 5) x16) Y_Mo_raise k_Mo_135 0 rfl rfl rfl rfl rfl (Rok.lt (by omega)) d_Mo_run_14 ?_
    obtain ⟨rfl, rfl⟩ := hres
    exact V.iret X d_Mo_run_17 rfl rfl
