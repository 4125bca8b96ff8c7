/-! ===== PascalMachine ===== -/
/-- the lowest n bytes are all codes -/
def pm_ok (v : Int64) : Nat → Nat → Bool
  | 0, _ => true
  | n + 1, i => if 32 ≤ pm_byte v i ∧ pm_byte v i ≤ 126 then pm_ok v n (i + 1) else false
def pm_codes (v : Int64) (n : Nat) : Bool := pm_ok v n 0
/-- the lowest n bytes, the highest of them first, behind the first L -/
def pm_put (v : Int64) : Nat → (Nat → Nat) → Nat → (Nat → Nat)
  | 0, f, _ => f
  | i + 1, f, L => pm_put v i (va_up f L (pm_byte v i)) (L + 1)
theorem in1_8 {x : Int32} : (x < nI 1) ∨ (nI 8 < x) ∨ ∃ k : Nat, 1 ≤ k ∧ k ≤ 8 ∧ x = nI k := by
  rcases pk_ix x (n := 9) (by decide) with q | q | ⟨k, q, rfl⟩
  · exact Or.inl (by rw [Int32.lt_iff_toInt_lt] at q ⊢; have : (nI 1).toInt = 1 := by decide +kernel
                     have h0 : (0 : Int32).toInt = 0 := by decide +kernel
                     omega)
  · refine Or.inr (Or.inl ?_)
    rw [Int32.le_iff_toInt_le] at q
    rw [Int32.lt_iff_toInt_lt]
    have h9 : (nI 9).toInt = 9 := by decide +kernel
    have h8 : (nI 8).toInt = 8 := by decide +kernel
    omega
  · rcases Nat.eq_zero_or_pos k with rfl | hk
    · exact Or.inl (by decide +kernel)
    · exact Or.inr (Or.inr ⟨k, hk, by omega, rfl⟩)
set_option maxHeartbeats 4000000 in
set_option maxRecDepth 100000 in
theorem c_PM_byteAt {l : Launch} {z : Zt} {a u w : Nat → Nat} {P : Pm} {F : Int32} {T : Tk} {N : Nm} {C D : Co} {M : Mc} (h : Nat) {v : Int64} {i : Nat} (hi : i < 8) : XC l (Gz z) (h) y_PM_byteAt b_PM_byteAt 3 (some .int) [.long v, .int (nI i)] (cw z a u w P F T N C D M) (.inl (some (.int (nI (pm_byte v i))))) (cw z a u w P F T N C D M) := by
  refine XC.ofV (by decide +kernel) rfl ?_
  intro p e s m below meth c X hnm
  refine V.lvs (lv' := [(0, .long v), (2, .int (nI i))]) rfl ?_
  refine V.lload_n X d_PM_byteAt_0 rfl ?_
  refine V.bipush (v := nI 8) X d_PM_byteAt_1 (by decide +kernel) ?_
  refine V.iload_n X d_PM_byteAt_3 rfl ?_
  refine V.imul X d_PM_byteAt_4 (pk_mul _ _) ?_
  refine V.lushr X d_PM_byteAt_5 rfl ?_
  refine V.l2i X d_PM_byteAt_6 rfl ?_
  refine V.sipush (v := nI 255) X d_PM_byteAt_7 (by decide +kernel) ?_
  refine V.iand X d_PM_byteAt_10 (byte_u hi) ?_
  exact V.iret X d_PM_byteAt_11 rfl rfl
set_option maxHeartbeats 4000000 in
set_option maxRecDepth 100000 in
theorem c_PM_hasOnlyCodes {l : Launch} {z : Zt} {a u w : Nat → Nat} {P : Pm} {F : Int32} {T : Tk} {N : Nm} {C D : Co} {M : Mc} (h : Nat) {v : Int64} {k : Nat} (hk : k ≤ 8) : XC l (Gz z) (h + 1) y_PM_hasOnlyCodes b_PM_hasOnlyCodes 5 (some .boolean) [.long v, .int (nI k)] (cw z a u w P F T N C D M) (.inl (some (.int (bI (pm_codes v k))))) (cw z a u w P F T N C D M) := by
  refine XC.ofV (by decide +kernel) rfl ?_
  intro p e s m below meth c X hnm
  refine V.lvs (lv' := [(0, .long v), (2, .int (nI k))]) rfl ?_
  refine V.iconst (v := nI 0) X d_PM_hasOnlyCodes_0 (by decide +kernel) ?_
  refine V.istore_n (lv' := [(0, _), (2, _), (3, _)]) X d_PM_hasOnlyCodes_1 (by decide) rfl ?_
  suffices loop2 : ∀ n i : Nat, i + n = k → V p l e (Rm (h + 1)) s m ([.long v, .int (nI k)] : List Value).toArray below meth c (Gz z) 5 0 0 (XE below (Gz z) (.inl (some (.int (bI (pm_ok v n i))))) (cw z a u w P F T N C D M) ([.long v, .int (nI k)] : List Value).toArray s) (cw z a u w P F T N C D M) 2 [(0, .long v), (2, .int (nI k)), (3, .int (nI i))] [] from loop2 k 0 (Nat.zero_add k)
  intro n
  induction n with
  | zero =>
    intro i hi
    refine V.iload_n X d_PM_hasOnlyCodes_2 rfl ?_
    refine V.iload_n X d_PM_hasOnlyCodes_3 rfl ?_
    refine V.cmpN_ge (tgt := 36) X d_PM_hasOnlyCodes_4 (by decide) (by first | omega | (dsimp only; omega) | (simp only [] at *; omega)) (by first | omega | (dsimp only; omega) | (simp only [] at *; omega)) (fun h4 => ?_) (fun h4 => absurd h4 (by omega))
    refine V.iconst (v := nI 1) X d_PM_hasOnlyCodes_36 (by decide +kernel) ?_
    exact V.zret X d_PM_hasOnlyCodes_37 (by first | exact Or.inl rfl | exact Or.inr rfl | (unfold bI; split; exact Or.inr rfl; exact Or.inl rfl)) rfl rfl
  | succ n ih =>
    intro i hi
    have hb := pm_byte_lt v i
    refine V.iload_n X d_PM_hasOnlyCodes_2 rfl ?_
    refine V.iload_n X d_PM_hasOnlyCodes_3 rfl ?_
    refine V.cmpN_ge (tgt := 36) X d_PM_hasOnlyCodes_4 (by decide) (by first | omega | (dsimp only; omega) | (simp only [] at *; omega)) (by first | omega | (dsimp only; omega) | (simp only [] at *; omega)) (fun h4 => absurd h4 (by omega)) (fun h4 => ?_)
    refine V.lload_n X d_PM_hasOnlyCodes_7 rfl ?_
    refine V.iload_n X d_PM_hasOnlyCodes_8 rfl ?_
    refine V.callS1 X (c_PM_byteAt h (by first | omega | (dsimp only at *; omega))) Y_PM_byteAt k_PM_45 rfl rfl rfl (Rok.lt (by omega)) d_PM_hasOnlyCodes_9 ?_
    refine V.istore (lv' := [(0, _), (2, _), (3, _), (4, _)]) X d_PM_hasOnlyCodes_12 (by decide) rfl ?_
    refine V.iload X d_PM_hasOnlyCodes_14 rfl ?_
    refine V.bipush (v := nI 32) X d_PM_hasOnlyCodes_16 (by decide +kernel) ?_
    refine V.cmpN_lt (tgt := 28) X d_PM_hasOnlyCodes_18 (by decide) (by first | omega | (dsimp only; omega) | (simp only [] at *; omega)) (by first | omega | (dsimp only; omega) | (simp only [] at *; omega)) (fun h18 => ?_) (fun h18 => ?_)
    · rw [show pm_ok v (n + 1) i = false from if_neg (by omega)]
      refine V.iconst (v := nI 0) X d_PM_hasOnlyCodes_28 (by decide +kernel) ?_
      exact V.zret X d_PM_hasOnlyCodes_29 (by first | exact Or.inl rfl | exact Or.inr rfl | (unfold bI; split; exact Or.inr rfl; exact Or.inl rfl)) rfl rfl
    · refine V.iload X d_PM_hasOnlyCodes_21 rfl ?_
      refine V.bipush (v := nI 126) X d_PM_hasOnlyCodes_23 (by decide +kernel) ?_
      refine V.cmpN_le (tgt := 30) X d_PM_hasOnlyCodes_25 (by decide) (by first | omega | (dsimp only; omega) | (simp only [] at *; omega)) (by first | omega | (dsimp only; omega) | (simp only [] at *; omega)) (fun h25 => ?_) (fun h25 => ?_)
      · rw [show pm_ok v (n + 1) i = pm_ok v n (i + 1) from if_pos ⟨h18, h25⟩]
        refine V.iinc (lv' := [(0, _), (2, _), (3, _), (4, _)]) X d_PM_hasOnlyCodes_30 rfl (show _ + nI 1 = _ from nI_add _ 1) (by decide) rfl ?_
        refine V.goto (tgt := 2) X d_PM_hasOnlyCodes_33 (by decide) ?_
        refine V.pick [0, 1, 2] (lv' := [(0, .long v), (2, .int (nI k)), (3, .int (nI (i + 1)))]) rfl ?_
        exact ih _ (by omega)
      · rw [show pm_ok v (n + 1) i = false from if_neg (by omega)]
        refine V.iconst (v := nI 0) X d_PM_hasOnlyCodes_28 (by decide +kernel) ?_
        exact V.zret X d_PM_hasOnlyCodes_29 (by first | exact Or.inl rfl | exact Or.inr rfl | (unfold bI; split; exact Or.inr rfl; exact Or.inl rfl)) rfl rfl
set_option maxHeartbeats 4000000 in
set_option maxRecDepth 100000 in
theorem c_PM_append_1 {l : Launch} {z : Zt} {a u w : Nat → Nat} {P : Pm} {F : Int32} {T : Tk} {N : Nm} {C D : Co} {M : Mc} (h : Nat) {v : Int64} {x : Int32} (hlt : l.stackTraces = false) (hx : x < nI 1 ∨ nI 8 < x) : XC l (Gz z) (h + 2) y_PM_append b_PM_append 5 (some .int) [.ref (a 0), .long v, .int x] (cw z a u w P F T N C D M) (.inr IAE) (cw z a u w P F T N C D M) := by
  refine XC.ofV (by decide +kernel) rfl ?_
  intro p e s m below meth c X hnm
  refine V.lvs (lv' := [(0, .ref (a 0)), (1, .long v), (3, .int x)]) rfl ?_
  refine V.iload_n X d_PM_append_0 rfl ?_
  refine V.iconst (v := nI 1) X d_PM_append_1 (by decide +kernel) ?_
  refine V.icmp_lt (tgt := 19) X d_PM_append_2 (by decide) (fun h2 => ?_) (fun h2 => ?_)
  · exact x_PM_41 X hlt d_PM_append_19 d_PM_append_22 d_PM_append_23 d_PM_append_26 rfl rfl rfl
  · refine V.iload_n X d_PM_append_5 rfl ?_
    refine V.bipush (v := nI 8) X d_PM_append_6 (by decide +kernel) ?_
    refine V.icmp_gt (tgt := 19) X d_PM_append_8 (by decide) (fun h8 => ?_) (fun h8 => absurd h8 (fun q => q (hx.resolve_left h2)))
    exact x_PM_41 X hlt d_PM_append_19 d_PM_append_22 d_PM_append_23 d_PM_append_26 rfl rfl rfl
set_option maxHeartbeats 4000000 in
set_option maxRecDepth 100000 in
theorem c_PM_append_2 {l : Launch} {z : Zt} {a u w : Nat → Nat} {P : Pm} {F : Int32} {T : Tk} {N : Nm} {C D : Co} {M : Mc} (h : Nat) {v : Int64} {k : Nat} (hlt : l.stackTraces = false) (h1 : 1 ≤ k) (h8 : k ≤ 8) (hc : pm_codes v k = false) : XC l (Gz z) (h + 2) y_PM_append b_PM_append 5 (some .int) [.ref (a 0), .long v, .int (nI k)] (cw z a u w P F T N C D M) (.inr IAE) (cw z a u w P F T N C D M) := by
  refine XC.ofV (by decide +kernel) rfl ?_
  intro p e s m below meth c X hnm
  refine V.lvs (lv' := [(0, .ref (a 0)), (1, .long v), (3, .int (nI k))]) rfl ?_
  refine V.iload_n X d_PM_append_0 rfl ?_
  refine V.iconst (v := nI 1) X d_PM_append_1 (by decide +kernel) ?_
  refine V.cmpN_lt (tgt := 19) X d_PM_append_2 (by decide) (by first | omega | (dsimp only; omega) | (simp only [] at *; omega)) (by first | omega | (dsimp only; omega) | (simp only [] at *; omega)) (fun h2 => absurd h2 (by omega)) (fun h2 => ?_)
  refine V.iload_n X d_PM_append_5 rfl ?_
  refine V.bipush (v := nI 8) X d_PM_append_6 (by decide +kernel) ?_
  refine V.cmpN_gt (tgt := 19) X d_PM_append_8 (by decide) (by first | omega | (dsimp only; omega) | (simp only [] at *; omega)) (by first | omega | (dsimp only; omega) | (simp only [] at *; omega)) (fun h8 => absurd h8 (by omega)) (fun h8 => ?_)
  refine V.lload_n X d_PM_append_11 rfl ?_
  refine V.iload_n X d_PM_append_12 rfl ?_
  refine V.callS1 X (c_PM_hasOnlyCodes h h8) Y_PM_hasOnlyCodes k_PM_35 rfl rfl rfl (Rok.lt (by omega)) d_PM_append_13 ?_
  refine V.ifB_ne (tgt := 27) X d_PM_append_16 (by decide) (fun h16 => absurd h16 (by rw [hc]; decide)) (fun h16 => ?_)
  exact x_PM_41 X hlt d_PM_append_19 d_PM_append_22 d_PM_append_23 d_PM_append_26 rfl rfl rfl
set_option maxHeartbeats 4000000 in
set_option maxRecDepth 100000 in
theorem c_PM_append_3 {l : Launch} {z : Zt} {a u w : Nat → Nat} {P : Pm} {F : Int32} {T : Tk} {N : Nm} {C D : Co} {M : Mc} (h : Nat) {v : Int64} {k : Nat} (hlt : l.stackTraces = false) (h1 : 1 ≤ k) (h8 : k ≤ 8) (hc : pm_codes v k = true) (hL : P.2.1 ≤ 300) (hl : 300 < P.2.1 + k) : XC l (Gz z) (h + 2) y_PM_append b_PM_append 5 (some .int) [.ref (a 0), .long v, .int (nI k)] (cw z a u w P F T N C D M) (.inr ISE) (cw z a u w P F T N C D M) := by
  refine XC.ofV (by decide +kernel) rfl ?_
  intro p e s m below meth c X hnm
  refine V.lvs (lv' := [(0, .ref (a 0)), (1, .long v), (3, .int (nI k))]) rfl ?_
  refine V.iload_n X d_PM_append_0 rfl ?_
  refine V.iconst (v := nI 1) X d_PM_append_1 (by decide +kernel) ?_
  refine V.cmpN_lt (tgt := 19) X d_PM_append_2 (by decide) (by first | omega | (dsimp only; omega) | (simp only [] at *; omega)) (by first | omega | (dsimp only; omega) | (simp only [] at *; omega)) (fun h2 => absurd h2 (by omega)) (fun h2 => ?_)
  refine V.iload_n X d_PM_append_5 rfl ?_
  refine V.bipush (v := nI 8) X d_PM_append_6 (by decide +kernel) ?_
  refine V.cmpN_gt (tgt := 19) X d_PM_append_8 (by decide) (by first | omega | (dsimp only; omega) | (simp only [] at *; omega)) (by first | omega | (dsimp only; omega) | (simp only [] at *; omega)) (fun h8 => absurd h8 (by omega)) (fun h8 => ?_)
  refine V.lload_n X d_PM_append_11 rfl ?_
  refine V.iload_n X d_PM_append_12 rfl ?_
  refine V.callS1 X (c_PM_hasOnlyCodes h h8) Y_PM_hasOnlyCodes k_PM_35 rfl rfl rfl (Rok.lt (by omega)) d_PM_append_13 ?_
  refine V.ifB_ne (tgt := 27) X d_PM_append_16 (by decide) (fun h16 => ?_) (fun h16 => absurd h16 (by rw [hc]; decide))
  refine V.aload_n X d_PM_append_27 rfl ?_
  refine g_PM_length X k_PM_13 d_PM_append_28 ?_
  refine V.iload_n X d_PM_append_31 rfl ?_
  refine V.iadd X d_PM_append_32 (nI_add _ _) ?_
  refine V.sipush (v := nI 300) X d_PM_append_33 (by decide +kernel) ?_
  refine V.cmpN_le (tgt := 47) X d_PM_append_36 (by decide) (by first | omega | (dsimp only; omega) | (simp only [] at *; omega)) (by first | omega | (dsimp only; omega) | (simp only [] at *; omega)) (fun h36 => absurd h36 (by omega)) (fun h36 => ?_)
  exact x_PM_44 X hlt d_PM_append_39 d_PM_append_42 d_PM_append_43 d_PM_append_46 rfl rfl rfl
theorem chr_nI {b : Nat} (hb : b < 256) : ((nI b).toUInt32 % 65536).toInt32 = nI b := by
  have : ∀ b, b < 256 → ((nI b).toUInt32 % 65536).toInt32 = nI b := by decide +kernel
  exact this b hb
set_option maxHeartbeats 4000000 in
set_option maxRecDepth 100000 in
theorem c_PM_append_4 {l : Launch} {z : Zt} {a u w : Nat → Nat} {P : Pm} {F : Int32} {T : Tk} {N : Nm} {C D : Co} {M : Mc} (h : Nat) {v : Int64} {k : Nat} (h1 : 1 ≤ k) (h8 : k ≤ 8) (hc : pm_codes v k = true) (hl : P.2.1 + k ≤ 300) : XC l (Gz z) (h + 2) y_PM_append b_PM_append 5 (some .int) [.ref (a 0), .long v, .int (nI k)] (cw z a u w P F T N C D M) (.inl (some (.int (nI (P.2.1 + k))))) (cw z a u w (pm_put v k P.1 P.2.1, P.2.1 + k, P.2.2) F T N C D M) := by
  refine XC.ofV (by decide +kernel) rfl ?_
  intro p e s m below meth c X hnm
  refine V.lvs (lv' := [(0, .ref (a 0)), (1, .long v), (3, .int (nI k))]) rfl ?_
  refine V.iload_n X d_PM_append_0 rfl ?_
  refine V.iconst (v := nI 1) X d_PM_append_1 (by decide +kernel) ?_
  refine V.cmpN_lt (tgt := 19) X d_PM_append_2 (by decide) (by first | omega | (dsimp only; omega) | (simp only [] at *; omega)) (by first | omega | (dsimp only; omega) | (simp only [] at *; omega)) (fun h2 => absurd h2 (by omega)) (fun h2 => ?_)
  refine V.iload_n X d_PM_append_5 rfl ?_
  refine V.bipush (v := nI 8) X d_PM_append_6 (by decide +kernel) ?_
  refine V.cmpN_gt (tgt := 19) X d_PM_append_8 (by decide) (by first | omega | (dsimp only; omega) | (simp only [] at *; omega)) (by first | omega | (dsimp only; omega) | (simp only [] at *; omega)) (fun h8 => absurd h8 (by omega)) (fun h8 => ?_)
  refine V.lload_n X d_PM_append_11 rfl ?_
  refine V.iload_n X d_PM_append_12 rfl ?_
  refine V.callS1 X (c_PM_hasOnlyCodes h h8) Y_PM_hasOnlyCodes k_PM_35 rfl rfl rfl (Rok.lt (by omega)) d_PM_append_13 ?_
  refine V.ifB_ne (tgt := 27) X d_PM_append_16 (by decide) (fun h16 => ?_) (fun h16 => absurd h16 (by rw [hc]; decide))
  refine V.aload_n X d_PM_append_27 rfl ?_
  refine g_PM_length X k_PM_13 d_PM_append_28 ?_
  refine V.iload_n X d_PM_append_31 rfl ?_
  refine V.iadd X d_PM_append_32 (nI_add _ _) ?_
  refine V.sipush (v := nI 300) X d_PM_append_33 (by decide +kernel) ?_
  refine V.cmpN_le (tgt := 47) X d_PM_append_36 (by decide) (by first | omega | (dsimp only; omega) | (simp only [] at *; omega)) (by first | omega | (dsimp only; omega) | (simp only [] at *; omega)) (fun h36 => ?_) (fun h36 => absurd h36 (by omega))
  refine V.iload_n X d_PM_append_47 rfl ?_
  refine V.iconst (v := nI 1) X d_PM_append_48 (by decide +kernel) ?_
  refine V.isub X d_PM_append_49 (jI_sub _) ?_
  refine V.istore (lv' := [(0, _), (1, _), (3, _), (4, _)]) X d_PM_append_50 (by decide) rfl ?_
  suffices loop52 : ∀ (i : Nat) (f : Nat → Nat) (L : Nat), i ≤ 8 → L + i ≤ 300 → V p l e (Rm (h + 2)) s m ([.ref (a 0), .long v, .int (nI k)] : List Value).toArray below meth c (Gz z) 5 0 0 (XE below (Gz z) (.inl (some (.int (nI (L + i))))) (cw z a u w (pm_put v i f L, L + i, P.2.2) F T N C D M) ([.ref (a 0), .long v, .int (nI k)] : List Value).toArray s) (cw z a u w (f, L, P.2.2) F T N C D M) 52 [(0, .ref (a 0)), (1, .long v), (3, .int (nI k)), (4, .int (jI i))] [] from loop52 k P.1 P.2.1 h8 hl
  intro i
  induction i with
  | zero =>
    intro f L hi hL
    refine V.lvs (lv' := [(0, .ref (a 0)), (1, .long v), (3, .int (nI k)), (4, .int (-1))]) rfl ?_
    refine V.iload X d_PM_append_52 rfl ?_
    refine V.if_lt (tgt := 89) X d_PM_append_54 (by decide) (fun _ => ?_) (fun h => absurd (by decide) h)
    refine V.aload_n X d_PM_append_89 rfl ?_
    refine g_PM_length X k_PM_13 d_PM_append_90 ?_
    exact V.iret X d_PM_append_93 rfl rfl
  | succ i ih =>
    intro f L hi hL
    have hb := pm_byte_lt v i
    refine V.lvs (lv' := [(0, .ref (a 0)), (1, .long v), (3, .int (nI k)), (4, .int (nI i))]) rfl ?_
    rw [show L + (i + 1) = (L + 1) + i by omega]
    rw [show pm_put v (i + 1) f L = pm_put v i (va_up f L (pm_byte v i)) (L + 1) from rfl]
    refine V.iload X d_PM_append_52 rfl ?_
    refine V.ifN_lt (tgt := 89) X d_PM_append_54 (by decide) (by first | omega | (dsimp only; omega) | (simp only [] at *; omega)) ?_
    refine V.aload_n X d_PM_append_57 rfl ?_
    refine g_PM_text X k_PM_9 d_PM_append_58 ?_
    refine V.aload_n X d_PM_append_61 rfl ?_
    refine g_PM_length X k_PM_13 d_PM_append_62 ?_
    refine V.lload_n X d_PM_append_65 rfl ?_
    refine V.iload X d_PM_append_66 rfl ?_
    refine V.callS1 X (c_PM_byteAt h (by first | omega | (dsimp only at *; omega))) Y_PM_byteAt k_PM_45 rfl rfl rfl (Rok.lt (by omega)) d_PM_append_68 ?_
    refine V.i2c X d_PM_append_71 (chr_nI hb) ?_
    refine s_PM_text X (by first | omega | (dsimp only; omega) | (simp only [] at *; omega)) (by omega) d_PM_append_72 ?_
    refine V.aload_n X d_PM_append_73 rfl ?_
    refine V.dup X d_PM_append_74 rfl ?_
    refine g_PM_length X k_PM_13 d_PM_append_75 ?_
    refine V.iconst (v := nI 1) X d_PM_append_78 (by decide +kernel) ?_
    refine V.iadd X d_PM_append_79 (nI_add _ _) ?_
    refine p_PM_length X k_PM_13 d_PM_append_80 ?_
    refine V.iinc (lv' := [(0, _), (1, _), (3, _), (4, _)]) X d_PM_append_83 rfl (jI_dec _) (by decide) rfl ?_
    refine V.goto (tgt := 52) X d_PM_append_86 (by decide) ?_
    exact ih _ _ (by omega) (by omega)
set_option maxHeartbeats 4000000 in
set_option maxRecDepth 100000 in
theorem c_PM_cut_1 {l : Launch} {z : Zt} {a u w : Nat → Nat} {P : Pm} {F : Int32} {T : Tk} {N : Nm} {C D : Co} {M : Mc} (h : Nat) {x : Int32} (hlt : l.stackTraces = false) (hx : x < 0 ∨ nI P.2.1 < x) : XC l (Gz z) (h) y_PM_cut b_PM_cut 2 (some .int) [.ref (a 0), .int x] (cw z a u w P F T N C D M) (.inr IAE) (cw z a u w P F T N C D M) := by
  refine XC.ofV (by decide +kernel) rfl ?_
  intro p e s m below meth c X hnm
  refine V.lvs (lv' := [(0, .ref (a 0)), (1, .int x)]) rfl ?_
  refine V.iload_n X d_PM_cut_0 rfl ?_
  refine V.if_lt (tgt := 12) X d_PM_cut_1 (by decide) (fun h1 => ?_) (fun h1 => ?_)
  · exact x_PM_41 X hlt d_PM_cut_12 d_PM_cut_15 d_PM_cut_16 d_PM_cut_19 rfl rfl rfl
  · refine V.iload_n X d_PM_cut_4 rfl ?_
    refine V.aload_n X d_PM_cut_5 rfl ?_
    refine g_PM_length X k_PM_13 d_PM_cut_6 ?_
    refine V.icmp_le (tgt := 20) X d_PM_cut_9 (by decide) (fun h9 => absurd h9 (fun q => absurd (hx.resolve_left h1) (Int32.not_lt.mpr q))) (fun h9 => ?_)
    exact x_PM_41 X hlt d_PM_cut_12 d_PM_cut_15 d_PM_cut_16 d_PM_cut_19 rfl rfl rfl
set_option maxHeartbeats 4000000 in
set_option maxRecDepth 100000 in
theorem c_PM_cut_2 {l : Launch} {z : Zt} {a u w : Nat → Nat} {P : Pm} {F : Int32} {T : Tk} {N : Nm} {C D : Co} {M : Mc} (h : Nat) {k : Nat} (hk : k ≤ P.2.1) (hL : P.2.1 ≤ 300) : XC l (Gz z) (h) y_PM_cut b_PM_cut 2 (some .int) [.ref (a 0), .int (nI k)] (cw z a u w P F T N C D M) (.inl (some (.int (nI (P.2.1 - k))))) (cw z a u w (P.1, P.2.1 - k, P.2.2) F T N C D M) := by
  refine XC.ofV (by decide +kernel) rfl ?_
  intro p e s m below meth c X hnm
  refine V.lvs (lv' := [(0, .ref (a 0)), (1, .int (nI k))]) rfl ?_
  refine V.iload_n X d_PM_cut_0 rfl ?_
  refine V.ifN_lt (tgt := 12) X d_PM_cut_1 (by decide) (by first | omega | (dsimp only; omega) | (simp only [] at *; omega)) ?_
  refine V.iload_n X d_PM_cut_4 rfl ?_
  refine V.aload_n X d_PM_cut_5 rfl ?_
  refine g_PM_length X k_PM_13 d_PM_cut_6 ?_
  refine V.cmpN_le (tgt := 20) X d_PM_cut_9 (by decide) (by first | omega | (dsimp only; omega) | (simp only [] at *; omega)) (by first | omega | (dsimp only; omega) | (simp only [] at *; omega)) (fun h9 => ?_) (fun h9 => absurd h9 (by omega))
  refine V.aload_n X d_PM_cut_20 rfl ?_
  refine V.dup X d_PM_cut_21 rfl ?_
  refine g_PM_length X k_PM_13 d_PM_cut_22 ?_
  refine V.iload_n X d_PM_cut_25 rfl ?_
  refine V.isub X d_PM_cut_26 (pk_sub (by first | omega | (dsimp only; omega) | (simp only [] at *; omega))) ?_
  refine p_PM_length X k_PM_13 d_PM_cut_27 ?_
  refine V.aload_n X d_PM_cut_30 rfl ?_
  refine g_PM_length X k_PM_13 d_PM_cut_31 ?_
  exact V.iret X d_PM_cut_34 rfl rfl
set_option maxHeartbeats 4000000 in
set_option maxRecDepth 100000 in
theorem c_PM_fault {l : Launch} {z : Zt} {a u w : Nat → Nat} {P : Pm} {F : Int32} {T : Tk} {N : Nm} {C D : Co} {M : Mc} (h : Nat)  : XC l (Gz z) (h) y_PM_fault b_PM_fault 1 (some .int) [.ref (a 0)] (cw z a u w P F T N C D M) (.inl (some (.int F))) (cw z a u w P F T N C D M) := by
  refine XC.ofV (by decide +kernel) rfl ?_
  intro p e s m below meth c X hnm
  refine V.lvs (lv' := [(0, .ref (a 0))]) rfl ?_
  refine V.aload_n X d_PM_fault_0 rfl ?_
  refine g_PM_compiler X k_PM_20 d_PM_fault_1 ?_
  refine g_Cp_faultPlace X k_PM_60 d_PM_fault_4 ?_
  exact V.iret X d_PM_fault_7 rfl rfl
set_option maxHeartbeats 4000000 in
set_option maxRecDepth 100000 in
theorem c_PM_output_1 {l : Launch} {z : Zt} {a u w : Nat → Nat} {P : Pm} {F : Int32} {T : Tk} {N : Nm} {C D : Co} {M : Mc} (h : Nat) {x : Int32} (hlt : l.stackTraces = false) (hx : x < 0 ∨ nI M.2.2.2.2.2.2.2.2.1 ≤ x) : XC l (Gz z) (h) y_PM_output b_PM_output 2 (some .int) [.ref (a 0), .int x] (cw z a u w P F T N C D M) (.inr NSE) (cw z a u w P F T N C D M) := by
  refine XC.ofV (by decide +kernel) rfl ?_
  intro p e s m below meth c X hnm
  refine V.lvs (lv' := [(0, .ref (a 0)), (1, .int x)]) rfl ?_
  refine V.iload_n X d_PM_output_0 rfl ?_
  refine V.if_lt (tgt := 15) X d_PM_output_1 (by decide) (fun h1 => ?_) (fun h1 => ?_)
  · exact x_PM_65 X hlt d_PM_output_15 d_PM_output_18 d_PM_output_19 d_PM_output_22 rfl rfl rfl
  · refine V.iload_n X d_PM_output_4 rfl ?_
    refine V.aload_n X d_PM_output_5 rfl ?_
    refine g_PM_machine X k_PM_27 d_PM_output_6 ?_
    refine g_Mc_written X k_PM_69 d_PM_output_9 ?_
    refine V.icmp_lt (tgt := 23) X d_PM_output_12 (by decide) (fun h12 => absurd h12 (fun q => absurd (hx.resolve_left h1) (Int32.not_le.mpr q))) (fun h12 => ?_)
    exact x_PM_65 X hlt d_PM_output_15 d_PM_output_18 d_PM_output_19 d_PM_output_22 rfl rfl rfl
set_option maxHeartbeats 4000000 in
set_option maxRecDepth 100000 in
theorem c_PM_output_2 {l : Launch} {z : Zt} {a u w : Nat → Nat} {P : Pm} {F : Int32} {T : Tk} {N : Nm} {C D : Co} {M : Mc} (h : Nat) {k : Nat} (hk : k < M.2.2.2.2.2.2.2.2.1) (hw : M.2.2.2.2.2.2.2.2.1 ≤ 32) : XC l (Gz z) (h) y_PM_output b_PM_output 2 (some .int) [.ref (a 0), .int (nI k)] (cw z a u w P F T N C D M) (.inl (some (.int (M.2.2.2.2.2.2.2.1 k)))) (cw z a u w P F T N C D M) := by
  refine XC.ofV (by decide +kernel) rfl ?_
  intro p e s m below meth c X hnm
  refine V.lvs (lv' := [(0, .ref (a 0)), (1, .int (nI k))]) rfl ?_
  refine V.iload_n X d_PM_output_0 rfl ?_
  refine V.ifN_lt (tgt := 15) X d_PM_output_1 (by decide) (by first | omega | (dsimp only; omega) | (simp only [] at *; omega)) ?_
  refine V.iload_n X d_PM_output_4 rfl ?_
  refine V.aload_n X d_PM_output_5 rfl ?_
  refine g_PM_machine X k_PM_27 d_PM_output_6 ?_
  refine g_Mc_written X k_PM_69 d_PM_output_9 ?_
  refine V.cmpN_lt (tgt := 23) X d_PM_output_12 (by decide) (by first | omega | (dsimp only; omega) | (simp only [] at *; omega)) (by first | omega | (dsimp only; omega) | (simp only [] at *; omega)) (fun h12 => ?_) (fun h12 => absurd h12 (by omega))
  refine V.aload_n X d_PM_output_23 rfl ?_
  refine g_PM_machine X k_PM_27 d_PM_output_24 ?_
  refine g_Mc_values X k_PM_72 d_PM_output_27 ?_
  refine V.iload_n X d_PM_output_30 rfl ?_
  refine l_Mc_values X (by first | omega | (dsimp only; omega) | (simp only [] at *; omega)) d_PM_output_31 ?_
  exact V.iret X d_PM_output_32 rfl rfl
set_option maxHeartbeats 4000000 in
set_option maxRecDepth 100000 in
theorem c_PM_count_0 {l : Launch} {z : Zt} {a u w : Nat → Nat} {P : Pm} {F : Int32} {T : Tk} {N : Nm} {C D : Co} {M : Mc} (h : Nat)  : XC l (Gz z) (h) y_PM_count b_PM_count 2 (some .int) [.ref (a 0), .int (nI 0)] (cw z a u w P F T N C D M) (.inl (some (.int (nI M.2.2.2.2.2.2.2.2.1)))) (cw z a u w P F T N C D M) := by
  refine XC.ofV (by decide +kernel) rfl ?_
  intro p e s m below meth c X hnm
  refine V.lvs (lv' := [(0, .ref (a 0)), (1, .int (nI 0))]) rfl ?_
  refine V.iload_n X d_PM_count_0 rfl ?_
  refine V.tableIn (off := 35) (tgt := 36) X d_PM_count_1 (by decide +kernel) (by decide +kernel) (by decide +kernel) (by decide) ?_
  refine V.aload_n X d_PM_count_36 rfl ?_
  refine g_PM_machine X k_PM_27 d_PM_count_37 ?_
  refine g_Mc_written X k_PM_69 d_PM_count_40 ?_
  exact V.iret X d_PM_count_43 rfl rfl
set_option maxHeartbeats 4000000 in
set_option maxRecDepth 100000 in
theorem c_PM_count_1 {l : Launch} {z : Zt} {a u w : Nat → Nat} {P : Pm} {F : Int32} {T : Tk} {N : Nm} {C D : Co} {M : Mc} (h : Nat)  : XC l (Gz z) (h) y_PM_count b_PM_count 2 (some .int) [.ref (a 0), .int (nI 1)] (cw z a u w P F T N C D M) (.inl (some (.int (nI M.2.2.2.2.2.2.2.2.2.1)))) (cw z a u w P F T N C D M) := by
  refine XC.ofV (by decide +kernel) rfl ?_
  intro p e s m below meth c X hnm
  refine V.lvs (lv' := [(0, .ref (a 0)), (1, .int (nI 1))]) rfl ?_
  refine V.iload_n X d_PM_count_0 rfl ?_
  refine V.tableIn (off := 43) (tgt := 44) X d_PM_count_1 (by decide +kernel) (by decide +kernel) (by decide +kernel) (by decide) ?_
  refine V.aload_n X d_PM_count_44 rfl ?_
  refine g_PM_machine X k_PM_27 d_PM_count_45 ?_
  refine g_Mc_lost X k_PM_76 d_PM_count_48 ?_
  exact V.iret X d_PM_count_51 rfl rfl
set_option maxHeartbeats 4000000 in
set_option maxRecDepth 100000 in
theorem c_PM_count_2 {l : Launch} {z : Zt} {a u w : Nat → Nat} {P : Pm} {F : Int32} {T : Tk} {N : Nm} {C D : Co} {M : Mc} (h : Nat)  : XC l (Gz z) (h) y_PM_count b_PM_count 2 (some .int) [.ref (a 0), .int (nI 2)] (cw z a u w P F T N C D M) (.inl (some (.int (nI M.2.2.2.2.2.2.2.2.2.2.1)))) (cw z a u w P F T N C D M) := by
  refine XC.ofV (by decide +kernel) rfl ?_
  intro p e s m below meth c X hnm
  refine V.lvs (lv' := [(0, .ref (a 0)), (1, .int (nI 2))]) rfl ?_
  refine V.iload_n X d_PM_count_0 rfl ?_
  refine V.tableIn (off := 51) (tgt := 52) X d_PM_count_1 (by decide +kernel) (by decide +kernel) (by decide +kernel) (by decide) ?_
  refine V.aload_n X d_PM_count_52 rfl ?_
  refine g_PM_machine X k_PM_27 d_PM_count_53 ?_
  refine g_Mc_steps X k_PM_79 d_PM_count_56 ?_
  exact V.iret X d_PM_count_59 rfl rfl
set_option maxHeartbeats 4000000 in
set_option maxRecDepth 100000 in
theorem c_PM_count_3 {l : Launch} {z : Zt} {a u w : Nat → Nat} {P : Pm} {F : Int32} {T : Tk} {N : Nm} {C D : Co} {M : Mc} (h : Nat)  : XC l (Gz z) (h) y_PM_count b_PM_count 2 (some .int) [.ref (a 0), .int (nI 3)] (cw z a u w P F T N C D M) (.inl (some (.int (nI M.2.2.2.2.2.2.2.2.2.2.2)))) (cw z a u w P F T N C D M) := by
  refine XC.ofV (by decide +kernel) rfl ?_
  intro p e s m below meth c X hnm
  refine V.lvs (lv' := [(0, .ref (a 0)), (1, .int (nI 3))]) rfl ?_
  refine V.iload_n X d_PM_count_0 rfl ?_
  refine V.tableIn (off := 59) (tgt := 60) X d_PM_count_1 (by decide +kernel) (by decide +kernel) (by decide +kernel) (by decide) ?_
  refine V.aload_n X d_PM_count_60 rfl ?_
  refine g_PM_machine X k_PM_27 d_PM_count_61 ?_
  refine g_Mc_deepest X k_PM_82 d_PM_count_64 ?_
  exact V.iret X d_PM_count_67 rfl rfl
set_option maxHeartbeats 4000000 in
set_option maxRecDepth 100000 in
theorem c_PM_count_4 {l : Launch} {z : Zt} {a u w : Nat → Nat} {P : Pm} {F : Int32} {T : Tk} {N : Nm} {C D : Co} {M : Mc} (h : Nat)  : XC l (Gz z) (h) y_PM_count b_PM_count 2 (some .int) [.ref (a 0), .int (nI 4)] (cw z a u w P F T N C D M) (.inl (some (.int (nI P.2.1)))) (cw z a u w P F T N C D M) := by
  refine XC.ofV (by decide +kernel) rfl ?_
  intro p e s m below meth c X hnm
  refine V.lvs (lv' := [(0, .ref (a 0)), (1, .int (nI 4))]) rfl ?_
  refine V.iload_n X d_PM_count_0 rfl ?_
  refine V.tableIn (off := 67) (tgt := 68) X d_PM_count_1 (by decide +kernel) (by decide +kernel) (by decide +kernel) (by decide) ?_
  refine V.aload_n X d_PM_count_68 rfl ?_
  refine g_PM_length X k_PM_13 d_PM_count_69 ?_
  exact V.iret X d_PM_count_72 rfl rfl
set_option maxHeartbeats 4000000 in
set_option maxRecDepth 100000 in
theorem c_PM_count_x {l : Launch} {z : Zt} {a u w : Nat → Nat} {P : Pm} {F : Int32} {T : Tk} {N : Nm} {C D : Co} {M : Mc} (h : Nat) {x : Int32} (hlt : l.stackTraces = false) (hx : x.toInt < 0 ∨ 4 < x.toInt) : XC l (Gz z) (h) y_PM_count b_PM_count 2 (some .int) [.ref (a 0), .int x] (cw z a u w P F T N C D M) (.inr IAE) (cw z a u w P F T N C D M) := by
  refine XC.ofV (by decide +kernel) rfl ?_
  intro p e s m below meth c X hnm
  refine V.lvs (lv' := [(0, .ref (a 0)), (1, .int x)]) rfl ?_
  refine V.iload_n X d_PM_count_0 rfl ?_
  refine V.tableOut (tgt := 73) X d_PM_count_1 hx (by decide) ?_
  exact x_PM_41 X hlt d_PM_count_73 d_PM_count_76 d_PM_count_77 d_PM_count_80 rfl rfl rfl
set_option maxHeartbeats 4000000 in
set_option maxRecDepth 100000 in
theorem c_PM_run_1 {l : Launch} {z : Zt} {a u w : Nat → Nat} {P : Pm} {F : Int32} {T : Tk} {N : Nm} {C D : Co} {M : Mc} (h : Nat) (hlt : l.stackTraces = false) (hp : P.2.2 = false) : XC l (Gz z) (h) y_PM_run b_PM_run 1 (some .int) [.ref (a 0)] (cw z a u w P F T N C D M) (.inr NSE) (cw z a u w P F T N C D M) := by
  refine XC.ofV (by decide +kernel) rfl ?_
  intro p e s m below meth c X hnm
  refine V.lvs (lv' := [(0, .ref (a 0))]) rfl ?_
  refine V.aload_n X d_PM_run_0 rfl ?_
  refine g_PM_hasProgram X k_PM_31 d_PM_run_1 ?_
  refine V.ifB_ne (tgt := 15) X d_PM_run_4 (by decide) (fun h4 => absurd h4 (by rw [hp]; decide)) (fun h4 => ?_)
  exact x_PM_65 X hlt d_PM_run_7 d_PM_run_10 d_PM_run_11 d_PM_run_14 rfl rfl rfl
def pm_run (r : Option String × Mc) : Oc := match r.1 with
  | none => .inl (some (.int (nI r.2.2.2.2.2.2.2.2.2.1)))
  | some E => .inr E
set_option maxHeartbeats 4000000 in
set_option maxRecDepth 100000 in
theorem c_PM_run_2 {l : Launch} {z : Zt} {a u w : Nat → Nat} {P : Pm} {F : Int32} {T : Tk} {N : Nm} {C D : Co} {M : Mc} (h : Nat) (hlt : l.stackTraces = false) (hD : CdOk D) (hM : McOk M) (hp : P.2.2 = true) : XC l (Gz z) (h + 5) y_PM_run b_PM_run 1 (some .int) [.ref (a 0)] (cw z a u w P F T N C D M) (pm_run (mc_run D 1000000 (mc_begin D M))) (cw z a u w P F T N C D (mc_run D 1000000 (mc_begin D M)).2) := by
  refine XC.ofV (by decide +kernel) rfl ?_
  intro p e s m below meth c X hnm
  refine V.lvs (lv' := [(0, .ref (a 0))]) rfl ?_
  refine V.aload_n X d_PM_run_0 rfl ?_
  refine g_PM_hasProgram X k_PM_31 d_PM_run_1 ?_
  refine V.ifB_ne (tgt := 15) X d_PM_run_4 (by decide) (fun h4 => ?_) (fun h4 => absurd h4 (by rw [hp]; decide))
  refine V.aload_n X d_PM_run_15 rfl ?_
  refine g_PM_machine X k_PM_27 d_PM_run_16 ?_
  have q := c_Mc_execute (l := l) (z := z) (a := a) (u := u) (w := w) (P := P) (F := F) (T := T) (N := N) (C := C) (D := D) (M := M) h hlt hD hM
  rcases hr : mc_run D 1000000 (mc_begin D M) with ⟨_ | E, K2⟩
  · rw [hr] at q
    refine V.callV0 X q Y_Mc_execute k_PM_66 13 rfl rfl rfl rfl rfl (Rok.lt (by omega)) d_PM_run_19 ?_
    refine V.aload_n X d_PM_run_22 rfl ?_
    refine g_PM_machine X k_PM_27 d_PM_run_23 ?_
    refine g_Mc_written X k_PM_69 d_PM_run_26 ?_
    exact V.iret X d_PM_run_29 rfl rfl
  · rw [hr] at q
    exact V.callVX X q Y_Mc_execute k_PM_66 13 rfl rfl rfl rfl rfl (Rok.lt (by omega)) d_PM_run_19 rfl rfl
