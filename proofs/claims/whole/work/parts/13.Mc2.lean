/-! ===== Machine: what it does ===== -/
set_option maxHeartbeats 4000000 in
set_option maxRecDepth 100000 in
theorem c_JM_max {l : Launch} {z : Zt} {a u w : Nat → Nat} {P : Pm} {F : Int32} {T : Tk} {N : Nm} {C D : Co} {M : Mc} (h : Nat) {x k : Nat} (hx : x < 2 ^ 31) (hk : k < 2 ^ 31) : XC l (Gz z) (h) y_JM_max b_JM_max 2 (some .int) [.int (nI x), .int (nI k)] (cw z a u w P F T N C D M) (.inl (some (.int (nI (max x k))))) (cw z a u w P F T N C D M) := by
  refine XC.ofVF (by decide +kernel) rfl ?_
  intro p e s m below meth c X hnm
  refine V.lvs (lv' := [(0, .int (nI x)), (1, .int (nI k))]) rfl ?_
  refine V.iload_n X d_JM_max_0 rfl ?_
  refine V.iload_n X d_JM_max_1 rfl ?_
  refine V.cmpN_lt (tgt := 9) X d_JM_max_2 (by decide) (by first | omega | (dsimp only; omega) | (simp only [] at *; omega)) (by first | omega | (dsimp only; omega) | (simp only [] at *; omega)) (fun h2 => ?_) (fun h2 => ?_)
  · rw [Nat.max_eq_right (by omega)]
    refine V.iload_n X d_JM_max_9 rfl ?_
    exact V.iret X d_JM_max_10 rfl rfl
  · rw [Nat.max_eq_left (by omega)]
    refine V.iload_n X d_JM_max_5 rfl ?_
    refine V.goto (tgt := 10) X d_JM_max_6 (by decide) ?_
    exact V.iret X d_JM_max_10 rfl rfl
set_option maxHeartbeats 4000000 in
set_option maxRecDepth 100000 in
theorem c_JM_min {l : Launch} {z : Zt} {a u w : Nat → Nat} {P : Pm} {F : Int32} {T : Tk} {N : Nm} {C D : Co} {M : Mc} (h : Nat) {x k : Nat} (hx : x < 2 ^ 31) (hk : k < 2 ^ 31) : XC l (Gz z) (h) y_JM_min b_JM_min 2 (some .int) [.int (nI x), .int (nI k)] (cw z a u w P F T N C D M) (.inl (some (.int (nI (min x k))))) (cw z a u w P F T N C D M) := by
  refine XC.ofVF (by decide +kernel) rfl ?_
  intro p e s m below meth c X hnm
  refine V.lvs (lv' := [(0, .int (nI x)), (1, .int (nI k))]) rfl ?_
  refine V.iload_n X d_JM_min_0 rfl ?_
  refine V.iload_n X d_JM_min_1 rfl ?_
  refine V.cmpN_gt (tgt := 9) X d_JM_min_2 (by decide) (by first | omega | (dsimp only; omega) | (simp only [] at *; omega)) (by first | omega | (dsimp only; omega) | (simp only [] at *; omega)) (fun h2 => ?_) (fun h2 => ?_)
  · rw [Nat.min_eq_right (by omega)]
    refine V.iload_n X d_JM_min_9 rfl ?_
    exact V.iret X d_JM_min_10 rfl rfl
  · rw [Nat.min_eq_left (by omega)]
    refine V.iload_n X d_JM_min_5 rfl ?_
    refine V.goto (tgt := 10) X d_JM_min_6 (by decide) ?_
    exact V.iret X d_JM_min_10 rfl rfl
def mc_cmp (x : Nat) (i j : Int32) : Bool := if x = 13 then decide (i = j) else if x = 14 then decide (i < j) else decide (j < i)
def mc_cal (x : Nat) (i j : Int32) : Int32 := if x = 8 then i + j else if x = 9 then i - j else if x = 10 then i * j else if x = 11 then i / j else i - i / j * j
theorem bI_t {b : Bool} (h : b = true) : nI 1 = bI b := by rw [h]; rfl
theorem bI_f {b : Bool} (h : b = false) : nI 0 = bI b := by rw [h]; rfl
set_option maxHeartbeats 4000000 in
set_option maxRecDepth 100000 in
theorem c_Mc_isTrue13 {l : Launch} {z : Zt} {a u w : Nat → Nat} {P : Pm} {F : Int32} {T : Tk} {N : Nm} {C D : Co} {M : Mc} (h : Nat) {i j : Int32} : XC l (Gz z) (h) y_Mc_isTrue b_Mc_isTrue 3 (some .boolean) [.int (nI 13), .int i, .int j] (cw z a u w P F T N C D M) (.inl (some (.int (bI (mc_cmp 13 i j))))) (cw z a u w P F T N C D M) := by
  refine XC.ofV (by decide +kernel) rfl ?_
  intro p e s m below meth c X hnm
  refine V.lvs (lv' := [(0, .int (nI 13)), (1, .int i), (2, .int j)]) rfl ?_
  refine V.iload_n X d_Mc_isTrue_0 rfl ?_
  refine V.lookup (off := 27) (tgt := 28) X d_Mc_isTrue_1 (by decide +kernel) (by decide +kernel) (by decide) ?_
  refine V.iload_n X d_Mc_isTrue_28 rfl ?_
  refine V.iload_n X d_Mc_isTrue_29 rfl ?_
  refine V.icmp_ne (tgt := 37) X d_Mc_isTrue_30 (by decide) (fun h30 => ?_) (fun h30 => ?_)
  · refine V.iconst (v := nI 0) X d_Mc_isTrue_37 (by decide +kernel) ?_
    exact V.zret X d_Mc_isTrue_38 (by first | exact Or.inl rfl | exact Or.inr rfl | (unfold bI; split; exact Or.inr rfl; exact Or.inl rfl)) (by congr 3; symm; first | exact bI_t (by simp [mc_cmp, *]) | exact bI_f (by simp [mc_cmp, *])) rfl
  · refine V.iconst (v := nI 1) X d_Mc_isTrue_33 (by decide +kernel) ?_
    refine V.goto (tgt := 38) X d_Mc_isTrue_34 (by decide) ?_
    exact V.zret X d_Mc_isTrue_38 (by first | exact Or.inl rfl | exact Or.inr rfl | (unfold bI; split; exact Or.inr rfl; exact Or.inl rfl)) (by congr 3; symm; first | exact bI_t (by simp [mc_cmp, *]) | exact bI_f (by simp [mc_cmp, *])) rfl
set_option maxHeartbeats 4000000 in
set_option maxRecDepth 100000 in
theorem c_Mc_isTrue14 {l : Launch} {z : Zt} {a u w : Nat → Nat} {P : Pm} {F : Int32} {T : Tk} {N : Nm} {C D : Co} {M : Mc} (h : Nat) {i j : Int32} : XC l (Gz z) (h) y_Mc_isTrue b_Mc_isTrue 3 (some .boolean) [.int (nI 14), .int i, .int j] (cw z a u w P F T N C D M) (.inl (some (.int (bI (mc_cmp 14 i j))))) (cw z a u w P F T N C D M) := by
  refine XC.ofV (by decide +kernel) rfl ?_
  intro p e s m below meth c X hnm
  refine V.lvs (lv' := [(0, .int (nI 14)), (1, .int i), (2, .int j)]) rfl ?_
  refine V.iload_n X d_Mc_isTrue_0 rfl ?_
  refine V.lookup (off := 38) (tgt := 39) X d_Mc_isTrue_1 (by decide +kernel) (by decide +kernel) (by decide) ?_
  refine V.iload_n X d_Mc_isTrue_39 rfl ?_
  refine V.iload_n X d_Mc_isTrue_40 rfl ?_
  refine V.icmp_ge (tgt := 48) X d_Mc_isTrue_41 (by decide) (fun h41 => ?_) (fun h41 => ?_)
  · have h41b := Int32.not_lt.mpr h41
    refine V.iconst (v := nI 0) X d_Mc_isTrue_48 (by decide +kernel) ?_
    exact V.zret X d_Mc_isTrue_49 (by first | exact Or.inl rfl | exact Or.inr rfl | (unfold bI; split; exact Or.inr rfl; exact Or.inl rfl)) (by congr 3; symm; first | exact bI_t (by simp [mc_cmp, *]) | exact bI_f (by simp [mc_cmp, *])) rfl
  · have h41b := Int32.not_le.mp h41
    refine V.iconst (v := nI 1) X d_Mc_isTrue_44 (by decide +kernel) ?_
    refine V.goto (tgt := 49) X d_Mc_isTrue_45 (by decide) ?_
    exact V.zret X d_Mc_isTrue_49 (by first | exact Or.inl rfl | exact Or.inr rfl | (unfold bI; split; exact Or.inr rfl; exact Or.inl rfl)) (by congr 3; symm; first | exact bI_t (by simp [mc_cmp, *]) | exact bI_f (by simp [mc_cmp, *])) rfl
set_option maxHeartbeats 4000000 in
set_option maxRecDepth 100000 in
theorem c_Mc_isTrue15 {l : Launch} {z : Zt} {a u w : Nat → Nat} {P : Pm} {F : Int32} {T : Tk} {N : Nm} {C D : Co} {M : Mc} (h : Nat) {i j : Int32} : XC l (Gz z) (h) y_Mc_isTrue b_Mc_isTrue 3 (some .boolean) [.int (nI 15), .int i, .int j] (cw z a u w P F T N C D M) (.inl (some (.int (bI (mc_cmp 15 i j))))) (cw z a u w P F T N C D M) := by
  refine XC.ofV (by decide +kernel) rfl ?_
  intro p e s m below meth c X hnm
  refine V.lvs (lv' := [(0, .int (nI 15)), (1, .int i), (2, .int j)]) rfl ?_
  refine V.iload_n X d_Mc_isTrue_0 rfl ?_
  refine V.lookup (off := 49) (tgt := 50) X d_Mc_isTrue_1 (by decide +kernel) (by decide +kernel) (by decide) ?_
  refine V.iload_n X d_Mc_isTrue_50 rfl ?_
  refine V.iload_n X d_Mc_isTrue_51 rfl ?_
  refine V.icmp_le (tgt := 59) X d_Mc_isTrue_52 (by decide) (fun h52 => ?_) (fun h52 => ?_)
  · have h52b := Int32.not_lt.mpr h52
    refine V.iconst (v := nI 0) X d_Mc_isTrue_59 (by decide +kernel) ?_
    exact V.zret X d_Mc_isTrue_60 (by first | exact Or.inl rfl | exact Or.inr rfl | (unfold bI; split; exact Or.inr rfl; exact Or.inl rfl)) (by congr 3; symm; first | exact bI_t (by simp [mc_cmp, *]) | exact bI_f (by simp [mc_cmp, *])) rfl
  · have h52b := Int32.not_le.mp h52
    refine V.iconst (v := nI 1) X d_Mc_isTrue_55 (by decide +kernel) ?_
    refine V.goto (tgt := 60) X d_Mc_isTrue_56 (by decide) ?_
    exact V.zret X d_Mc_isTrue_60 (by first | exact Or.inl rfl | exact Or.inr rfl | (unfold bI; split; exact Or.inr rfl; exact Or.inl rfl)) (by congr 3; symm; first | exact bI_t (by simp [mc_cmp, *]) | exact bI_f (by simp [mc_cmp, *])) rfl
set_option maxHeartbeats 4000000 in
set_option maxRecDepth 100000 in
theorem c_Mc_divide {l : Launch} {z : Zt} {a u w : Nat → Nat} {P : Pm} {F : Int32} {T : Tk} {N : Nm} {C D : Co} {M : Mc} (h : Nat) {b : Bool} {i j : Int32} (hj : ¬ j = 0) : XC l (Gz z) (h) y_Mc_divide b_Mc_divide 3 (some .int) [.int (bI b), .int i, .int j] (cw z a u w P F T N C D M) (.inl (some (.int (if b then i / j else i - i / j * j)))) (cw z a u w P F T N C D M) := by
  refine XC.ofV (by decide +kernel) rfl ?_
  intro p e s m below meth c X hnm
  refine V.lvs (lv' := [(0, .int (bI b)), (1, .int i), (2, .int j)]) rfl ?_
  refine V.iload_n X d_Mc_divide_0 rfl ?_
  refine V.if_ne (tgt := 12) X d_Mc_divide_1 (by decide) (fun h1 => ?_) (fun h1 => absurd h1 (hj))
  refine V.iload_n X d_Mc_divide_12 rfl ?_
  refine V.ifB_eq (tgt := 22) X d_Mc_divide_13 (by decide) (fun h13 => ?_) (fun h13 => ?_)
  · rw [if_neg (fun q => by rw [h13] at q; cases q)]
    refine V.iload_n X d_Mc_divide_22 rfl ?_
    refine V.iload_n X d_Mc_divide_23 rfl ?_
    refine V.irem X d_Mc_divide_24 hj rfl ?_
    exact V.iret X d_Mc_divide_25 rfl rfl
  · rw [if_pos h13]
    refine V.iload_n X d_Mc_divide_16 rfl ?_
    refine V.iload_n X d_Mc_divide_17 rfl ?_
    refine V.idiv X d_Mc_divide_18 hj rfl ?_
    refine V.goto (tgt := 25) X d_Mc_divide_19 (by decide) ?_
    exact V.iret X d_Mc_divide_25 rfl rfl
set_option maxHeartbeats 4000000 in
set_option maxRecDepth 100000 in
theorem c_Mc_divideX {l : Launch} {z : Zt} {a u w : Nat → Nat} {P : Pm} {F : Int32} {T : Tk} {N : Nm} {C D : Co} {M : Mc} (h : Nat) (hlt : l.stackTraces = false) {b : Bool} {i j : Int32} (hj : j = 0) : XC l (Gz z) (h) y_Mc_divide b_Mc_divide 3 (some .int) [.int (bI b), .int i, .int j] (cw z a u w P F T N C D M) (.inr ARE) (cw z a u w P F T N C D M) := by
  refine XC.ofV (by decide +kernel) rfl ?_
  intro p e s m below meth c X hnm
  refine V.lvs (lv' := [(0, .int (bI b)), (1, .int i), (2, .int j)]) rfl ?_
  refine V.iload_n X d_Mc_divide_0 rfl ?_
  refine V.if_ne (tgt := 12) X d_Mc_divide_1 (by decide) (fun h1 => absurd h1 (fun q => q hj)) (fun h1 => ?_)
  exact x_Mc_137 X hlt d_Mc_divide_4 d_Mc_divide_7 d_Mc_divide_8 d_Mc_divide_11 rfl rfl rfl
set_option maxHeartbeats 4000000 in
set_option maxRecDepth 100000 in
theorem c_Mc_calculate8 {l : Launch} {z : Zt} {a u w : Nat → Nat} {P : Pm} {F : Int32} {T : Tk} {N : Nm} {C D : Co} {M : Mc} (h : Nat) {i j : Int32} : XC l (Gz z) (h + 1) y_Mc_calculate b_Mc_calculate 3 (some .int) [.int (nI 8), .int i, .int j] (cw z a u w P F T N C D M) (.inl (some (.int (mc_cal 8 i j)))) (cw z a u w P F T N C D M) := by
  refine XC.ofV (by decide +kernel) rfl ?_
  intro p e s m below meth c X hnm
  refine V.lvs (lv' := [(0, .int (nI 8)), (1, .int i), (2, .int j)]) rfl ?_
  refine V.iload_n X d_Mc_calculate_0 rfl ?_
  refine V.tableIn (off := 27) (tgt := 28) X d_Mc_calculate_1 (by decide +kernel) (by decide +kernel) (by decide +kernel) (by decide) ?_
  refine V.iload_n X d_Mc_calculate_28 rfl ?_
  refine V.iload_n X d_Mc_calculate_29 rfl ?_
  refine V.iadd X d_Mc_calculate_30 rfl ?_
  exact V.iret X d_Mc_calculate_31 rfl rfl
set_option maxHeartbeats 4000000 in
set_option maxRecDepth 100000 in
theorem c_Mc_calculate9 {l : Launch} {z : Zt} {a u w : Nat → Nat} {P : Pm} {F : Int32} {T : Tk} {N : Nm} {C D : Co} {M : Mc} (h : Nat) {i j : Int32} : XC l (Gz z) (h + 1) y_Mc_calculate b_Mc_calculate 3 (some .int) [.int (nI 9), .int i, .int j] (cw z a u w P F T N C D M) (.inl (some (.int (mc_cal 9 i j)))) (cw z a u w P F T N C D M) := by
  refine XC.ofV (by decide +kernel) rfl ?_
  intro p e s m below meth c X hnm
  refine V.lvs (lv' := [(0, .int (nI 9)), (1, .int i), (2, .int j)]) rfl ?_
  refine V.iload_n X d_Mc_calculate_0 rfl ?_
  refine V.tableIn (off := 31) (tgt := 32) X d_Mc_calculate_1 (by decide +kernel) (by decide +kernel) (by decide +kernel) (by decide) ?_
  refine V.iload_n X d_Mc_calculate_32 rfl ?_
  refine V.iload_n X d_Mc_calculate_33 rfl ?_
  refine V.isub X d_Mc_calculate_34 rfl ?_
  exact V.iret X d_Mc_calculate_35 rfl rfl
set_option maxHeartbeats 4000000 in
set_option maxRecDepth 100000 in
theorem c_Mc_calculate10 {l : Launch} {z : Zt} {a u w : Nat → Nat} {P : Pm} {F : Int32} {T : Tk} {N : Nm} {C D : Co} {M : Mc} (h : Nat) {i j : Int32} : XC l (Gz z) (h + 1) y_Mc_calculate b_Mc_calculate 3 (some .int) [.int (nI 10), .int i, .int j] (cw z a u w P F T N C D M) (.inl (some (.int (mc_cal 10 i j)))) (cw z a u w P F T N C D M) := by
  refine XC.ofV (by decide +kernel) rfl ?_
  intro p e s m below meth c X hnm
  refine V.lvs (lv' := [(0, .int (nI 10)), (1, .int i), (2, .int j)]) rfl ?_
  refine V.iload_n X d_Mc_calculate_0 rfl ?_
  refine V.tableIn (off := 35) (tgt := 36) X d_Mc_calculate_1 (by decide +kernel) (by decide +kernel) (by decide +kernel) (by decide) ?_
  refine V.iload_n X d_Mc_calculate_36 rfl ?_
  refine V.iload_n X d_Mc_calculate_37 rfl ?_
  refine V.imul X d_Mc_calculate_38 rfl ?_
  exact V.iret X d_Mc_calculate_39 rfl rfl
set_option maxHeartbeats 4000000 in
set_option maxRecDepth 100000 in
theorem c_Mc_calculate11 {l : Launch} {z : Zt} {a u w : Nat → Nat} {P : Pm} {F : Int32} {T : Tk} {N : Nm} {C D : Co} {M : Mc} (h : Nat) {i j : Int32} (hj : ¬ j = 0) : XC l (Gz z) (h + 1) y_Mc_calculate b_Mc_calculate 3 (some .int) [.int (nI 11), .int i, .int j] (cw z a u w P F T N C D M) (.inl (some (.int (mc_cal 11 i j)))) (cw z a u w P F T N C D M) := by
  refine XC.ofV (by decide +kernel) rfl ?_
  intro p e s m below meth c X hnm
  refine V.lvs (lv' := [(0, .int (nI 11)), (1, .int i), (2, .int j)]) rfl ?_
  refine V.iload_n X d_Mc_calculate_0 rfl ?_
  refine V.tableOut (tgt := 40) X d_Mc_calculate_1 (by decide +kernel) (by decide) ?_
  refine V.iload_n X d_Mc_calculate_40 rfl ?_
  refine V.bipush (v := nI 11) X d_Mc_calculate_41 (by decide +kernel) ?_
  refine V.cmpN_ne (tgt := 50) X d_Mc_calculate_43 (by decide) (by first | omega | (dsimp only; omega) | (simp only [] at *; omega)) (by first | omega | (dsimp only; omega) | (simp only [] at *; omega)) (fun h43 => absurd h43 (fun q => q rfl)) (fun h43 => ?_)
  refine V.iconst (v := nI 1) X d_Mc_calculate_46 (by decide +kernel) ?_
  refine V.goto (tgt := 51) X d_Mc_calculate_47 (by decide) ?_
  refine V.iload_n X d_Mc_calculate_51 rfl ?_
  refine V.iload_n X d_Mc_calculate_52 rfl ?_
  refine V.callS1 X (c_Mc_divide (b := true) h hj) Y_Mc_divide k_Mc_131 rfl rfl rfl (Rok.lt (by omega)) d_Mc_calculate_53 ?_
  exact V.iret X d_Mc_calculate_56 rfl rfl
set_option maxHeartbeats 4000000 in
set_option maxRecDepth 100000 in
theorem c_Mc_calculate11X {l : Launch} {z : Zt} {a u w : Nat → Nat} {P : Pm} {F : Int32} {T : Tk} {N : Nm} {C D : Co} {M : Mc} (h : Nat) (hlt : l.stackTraces = false) {i j : Int32} (hj : j = 0) : XC l (Gz z) (h + 1) y_Mc_calculate b_Mc_calculate 3 (some .int) [.int (nI 11), .int i, .int j] (cw z a u w P F T N C D M) (.inr ARE) (cw z a u w P F T N C D M) := by
  refine XC.ofV (by decide +kernel) rfl ?_
  intro p e s m below meth c X hnm
  refine V.lvs (lv' := [(0, .int (nI 11)), (1, .int i), (2, .int j)]) rfl ?_
  refine V.iload_n X d_Mc_calculate_0 rfl ?_
  refine V.tableOut (tgt := 40) X d_Mc_calculate_1 (by decide +kernel) (by decide) ?_
  refine V.iload_n X d_Mc_calculate_40 rfl ?_
  refine V.bipush (v := nI 11) X d_Mc_calculate_41 (by decide +kernel) ?_
  refine V.cmpN_ne (tgt := 50) X d_Mc_calculate_43 (by decide) (by first | omega | (dsimp only; omega) | (simp only [] at *; omega)) (by first | omega | (dsimp only; omega) | (simp only [] at *; omega)) (fun h43 => absurd h43 (fun q => q rfl)) (fun h43 => ?_)
  refine V.iconst (v := nI 1) X d_Mc_calculate_46 (by decide +kernel) ?_
  refine V.goto (tgt := 51) X d_Mc_calculate_47 (by decide) ?_
  refine V.iload_n X d_Mc_calculate_51 rfl ?_
  refine V.iload_n X d_Mc_calculate_52 rfl ?_
  exact V.callSX X (c_Mc_divideX (b := true) h hlt hj) Y_Mc_divide k_Mc_131 rfl rfl rfl (Rok.lt (by omega)) d_Mc_calculate_53 rfl rfl
set_option maxHeartbeats 4000000 in
set_option maxRecDepth 100000 in
theorem c_Mc_calculate12 {l : Launch} {z : Zt} {a u w : Nat → Nat} {P : Pm} {F : Int32} {T : Tk} {N : Nm} {C D : Co} {M : Mc} (h : Nat) {i j : Int32} (hj : ¬ j = 0) : XC l (Gz z) (h + 1) y_Mc_calculate b_Mc_calculate 3 (some .int) [.int (nI 12), .int i, .int j] (cw z a u w P F T N C D M) (.inl (some (.int (mc_cal 12 i j)))) (cw z a u w P F T N C D M) := by
  refine XC.ofV (by decide +kernel) rfl ?_
  intro p e s m below meth c X hnm
  refine V.lvs (lv' := [(0, .int (nI 12)), (1, .int i), (2, .int j)]) rfl ?_
  refine V.iload_n X d_Mc_calculate_0 rfl ?_
  refine V.tableOut (tgt := 40) X d_Mc_calculate_1 (by decide +kernel) (by decide) ?_
  refine V.iload_n X d_Mc_calculate_40 rfl ?_
  refine V.bipush (v := nI 11) X d_Mc_calculate_41 (by decide +kernel) ?_
  refine V.cmpN_ne (tgt := 50) X d_Mc_calculate_43 (by decide) (by first | omega | (dsimp only; omega) | (simp only [] at *; omega)) (by first | omega | (dsimp only; omega) | (simp only [] at *; omega)) (fun h43 => ?_) (fun h43 => absurd h43 (by decide))
  refine V.iconst (v := nI 0) X d_Mc_calculate_50 (by decide +kernel) ?_
  refine V.iload_n X d_Mc_calculate_51 rfl ?_
  refine V.iload_n X d_Mc_calculate_52 rfl ?_
  refine V.callS1 X (c_Mc_divide (b := false) h hj) Y_Mc_divide k_Mc_131 rfl rfl rfl (Rok.lt (by omega)) d_Mc_calculate_53 ?_
  exact V.iret X d_Mc_calculate_56 rfl rfl
set_option maxHeartbeats 4000000 in
set_option maxRecDepth 100000 in
theorem c_Mc_calculate12X {l : Launch} {z : Zt} {a u w : Nat → Nat} {P : Pm} {F : Int32} {T : Tk} {N : Nm} {C D : Co} {M : Mc} (h : Nat) (hlt : l.stackTraces = false) {i j : Int32} (hj : j = 0) : XC l (Gz z) (h + 1) y_Mc_calculate b_Mc_calculate 3 (some .int) [.int (nI 12), .int i, .int j] (cw z a u w P F T N C D M) (.inr ARE) (cw z a u w P F T N C D M) := by
  refine XC.ofV (by decide +kernel) rfl ?_
  intro p e s m below meth c X hnm
  refine V.lvs (lv' := [(0, .int (nI 12)), (1, .int i), (2, .int j)]) rfl ?_
  refine V.iload_n X d_Mc_calculate_0 rfl ?_
  refine V.tableOut (tgt := 40) X d_Mc_calculate_1 (by decide +kernel) (by decide) ?_
  refine V.iload_n X d_Mc_calculate_40 rfl ?_
  refine V.bipush (v := nI 11) X d_Mc_calculate_41 (by decide +kernel) ?_
  refine V.cmpN_ne (tgt := 50) X d_Mc_calculate_43 (by decide) (by first | omega | (dsimp only; omega) | (simp only [] at *; omega)) (by first | omega | (dsimp only; omega) | (simp only [] at *; omega)) (fun h43 => ?_) (fun h43 => absurd h43 (by decide))
  refine V.iconst (v := nI 0) X d_Mc_calculate_50 (by decide +kernel) ?_
  refine V.iload_n X d_Mc_calculate_51 rfl ?_
  refine V.iload_n X d_Mc_calculate_52 rfl ?_
  exact V.callSX X (c_Mc_divideX (b := false) h hlt hj) Y_Mc_divide k_Mc_131 rfl rfl rfl (Rok.lt (by omega)) d_Mc_calculate_53 rfl rfl
theorem mc_pop_top {M : Mc} (h : M.2.2.2.2.1 ≤ 21) : (mc_pop M).2.2.2.2.2.1 ≤ 21 := by
  unfold mc_pop
  split
  · exact h
  · show M.2.2.2.2.1 - 1 ≤ 21
    omega
/-- right and left of an operation, and what is left -/
def mc_two (M : Mc) : Int32 × Int32 × Mc := ((mc_pop (mc_pop M).2).1, (mc_pop M).1, (mc_pop (mc_pop M).2).2)
def mc_comb (M : Mc) (x : Nat) : Mc := mc_push (mc_two M).2.2 (if 13 ≤ x then bI (mc_cmp x (mc_two M).1 (mc_two M).2.1) else mc_cal x (mc_two M).1 (mc_two M).2.1)
set_option maxHeartbeats 4000000 in
set_option maxRecDepth 100000 in
theorem c_Mc_combine8 {l : Launch} {z : Zt} {a u w : Nat → Nat} {P : Pm} {F : Int32} {T : Tk} {N : Nm} {C D : Co} {M : Mc} (h : Nat) (ht : M.2.2.2.2.1 ≤ 21) : XC l (Gz z) (h + 2) y_Mc_combine b_Mc_combine 4 none [.ref (a 13), .int (nI 8)] (cw z a u w P F T N C D M) (.inl none) (cw z a u w P F T N C D (mc_comb M 8)) := by
  refine XC.ofV (by decide +kernel) rfl ?_
  intro p e s m below meth c X hnm
  refine V.lvs (lv' := [(0, .ref (a 13)), (1, .int (nI 8))]) rfl ?_
  refine V.aload_n X d_Mc_combine_0 rfl ?_
  refine V.callV1 X (c_Mc_pop (h + 1) ht) Y_Mc_pop k_Mc_101 13 rfl rfl rfl rfl rfl (Rok.lt (by omega)) d_Mc_combine_1 ?_
  refine V.istore_n (lv' := [(0, _), (1, _), (2, _)]) X d_Mc_combine_4 (by decide) rfl ?_
  refine V.aload_n X d_Mc_combine_5 rfl ?_
  refine V.callV1 X (c_Mc_pop (h + 1) (mc_pop_top ht)) Y_Mc_pop k_Mc_101 13 rfl rfl rfl rfl rfl (Rok.lt (by omega)) d_Mc_combine_6 ?_
  have ht2 := mc_pop_top (mc_pop_top ht)
  refine V.istore_n (lv' := [(0, _), (1, _), (2, _), (3, _)]) X d_Mc_combine_9 (by decide) rfl ?_
  refine V.iload_n X d_Mc_combine_10 rfl ?_
  refine V.bipush (v := nI 13) X d_Mc_combine_11 (by decide +kernel) ?_
  refine V.cmpN_lt (tgt := 37) X d_Mc_combine_13 (by decide) (by first | omega | (dsimp only; omega) | (simp only [] at *; omega)) (by first | omega | (dsimp only; omega) | (simp only [] at *; omega)) (fun h13 => ?_) (fun h13 => absurd h13 (by decide))
  refine V.aload_n X d_Mc_combine_37 rfl ?_
  refine V.iload_n X d_Mc_combine_38 rfl ?_
  refine V.iload_n X d_Mc_combine_39 rfl ?_
  refine V.iload_n X d_Mc_combine_40 rfl ?_
  refine V.callS1 X (c_Mc_calculate8 h) Y_Mc_calculate k_Mc_127 rfl rfl rfl (Rok.lt (by omega)) d_Mc_combine_41 ?_
  refine V.callV0 X (c_Mc_push (h + 1) (by omega)) Y_Mc_push k_Mc_89 13 rfl rfl rfl rfl rfl (Rok.lt (by omega)) d_Mc_combine_44 ?_
  exact V.vret X d_Mc_combine_47 rfl rfl
set_option maxHeartbeats 4000000 in
set_option maxRecDepth 100000 in
theorem c_Mc_combine9 {l : Launch} {z : Zt} {a u w : Nat → Nat} {P : Pm} {F : Int32} {T : Tk} {N : Nm} {C D : Co} {M : Mc} (h : Nat) (ht : M.2.2.2.2.1 ≤ 21) : XC l (Gz z) (h + 2) y_Mc_combine b_Mc_combine 4 none [.ref (a 13), .int (nI 9)] (cw z a u w P F T N C D M) (.inl none) (cw z a u w P F T N C D (mc_comb M 9)) := by
  refine XC.ofV (by decide +kernel) rfl ?_
  intro p e s m below meth c X hnm
  refine V.lvs (lv' := [(0, .ref (a 13)), (1, .int (nI 9))]) rfl ?_
  refine V.aload_n X d_Mc_combine_0 rfl ?_
  refine V.callV1 X (c_Mc_pop (h + 1) ht) Y_Mc_pop k_Mc_101 13 rfl rfl rfl rfl rfl (Rok.lt (by omega)) d_Mc_combine_1 ?_
  refine V.istore_n (lv' := [(0, _), (1, _), (2, _)]) X d_Mc_combine_4 (by decide) rfl ?_
  refine V.aload_n X d_Mc_combine_5 rfl ?_
  refine V.callV1 X (c_Mc_pop (h + 1) (mc_pop_top ht)) Y_Mc_pop k_Mc_101 13 rfl rfl rfl rfl rfl (Rok.lt (by omega)) d_Mc_combine_6 ?_
  have ht2 := mc_pop_top (mc_pop_top ht)
  refine V.istore_n (lv' := [(0, _), (1, _), (2, _), (3, _)]) X d_Mc_combine_9 (by decide) rfl ?_
  refine V.iload_n X d_Mc_combine_10 rfl ?_
  refine V.bipush (v := nI 13) X d_Mc_combine_11 (by decide +kernel) ?_
  refine V.cmpN_lt (tgt := 37) X d_Mc_combine_13 (by decide) (by first | omega | (dsimp only; omega) | (simp only [] at *; omega)) (by first | omega | (dsimp only; omega) | (simp only [] at *; omega)) (fun h13 => ?_) (fun h13 => absurd h13 (by decide))
  refine V.aload_n X d_Mc_combine_37 rfl ?_
  refine V.iload_n X d_Mc_combine_38 rfl ?_
  refine V.iload_n X d_Mc_combine_39 rfl ?_
  refine V.iload_n X d_Mc_combine_40 rfl ?_
  refine V.callS1 X (c_Mc_calculate9 h) Y_Mc_calculate k_Mc_127 rfl rfl rfl (Rok.lt (by omega)) d_Mc_combine_41 ?_
  refine V.callV0 X (c_Mc_push (h + 1) (by omega)) Y_Mc_push k_Mc_89 13 rfl rfl rfl rfl rfl (Rok.lt (by omega)) d_Mc_combine_44 ?_
  exact V.vret X d_Mc_combine_47 rfl rfl
set_option maxHeartbeats 4000000 in
set_option maxRecDepth 100000 in
theorem c_Mc_combine10 {l : Launch} {z : Zt} {a u w : Nat → Nat} {P : Pm} {F : Int32} {T : Tk} {N : Nm} {C D : Co} {M : Mc} (h : Nat) (ht : M.2.2.2.2.1 ≤ 21) : XC l (Gz z) (h + 2) y_Mc_combine b_Mc_combine 4 none [.ref (a 13), .int (nI 10)] (cw z a u w P F T N C D M) (.inl none) (cw z a u w P F T N C D (mc_comb M 10)) := by
  refine XC.ofV (by decide +kernel) rfl ?_
  intro p e s m below meth c X hnm
  refine V.lvs (lv' := [(0, .ref (a 13)), (1, .int (nI 10))]) rfl ?_
  refine V.aload_n X d_Mc_combine_0 rfl ?_
  refine V.callV1 X (c_Mc_pop (h + 1) ht) Y_Mc_pop k_Mc_101 13 rfl rfl rfl rfl rfl (Rok.lt (by omega)) d_Mc_combine_1 ?_
  refine V.istore_n (lv' := [(0, _), (1, _), (2, _)]) X d_Mc_combine_4 (by decide) rfl ?_
  refine V.aload_n X d_Mc_combine_5 rfl ?_
  refine V.callV1 X (c_Mc_pop (h + 1) (mc_pop_top ht)) Y_Mc_pop k_Mc_101 13 rfl rfl rfl rfl rfl (Rok.lt (by omega)) d_Mc_combine_6 ?_
  have ht2 := mc_pop_top (mc_pop_top ht)
  refine V.istore_n (lv' := [(0, _), (1, _), (2, _), (3, _)]) X d_Mc_combine_9 (by decide) rfl ?_
  refine V.iload_n X d_Mc_combine_10 rfl ?_
  refine V.bipush (v := nI 13) X d_Mc_combine_11 (by decide +kernel) ?_
  refine V.cmpN_lt (tgt := 37) X d_Mc_combine_13 (by decide) (by first | omega | (dsimp only; omega) | (simp only [] at *; omega)) (by first | omega | (dsimp only; omega) | (simp only [] at *; omega)) (fun h13 => ?_) (fun h13 => absurd h13 (by decide))
  refine V.aload_n X d_Mc_combine_37 rfl ?_
  refine V.iload_n X d_Mc_combine_38 rfl ?_
  refine V.iload_n X d_Mc_combine_39 rfl ?_
  refine V.iload_n X d_Mc_combine_40 rfl ?_
  refine V.callS1 X (c_Mc_calculate10 h) Y_Mc_calculate k_Mc_127 rfl rfl rfl (Rok.lt (by omega)) d_Mc_combine_41 ?_
  refine V.callV0 X (c_Mc_push (h + 1) (by omega)) Y_Mc_push k_Mc_89 13 rfl rfl rfl rfl rfl (Rok.lt (by omega)) d_Mc_combine_44 ?_
  exact V.vret X d_Mc_combine_47 rfl rfl
set_option maxHeartbeats 4000000 in
set_option maxRecDepth 100000 in
theorem c_Mc_combine11 {l : Launch} {z : Zt} {a u w : Nat → Nat} {P : Pm} {F : Int32} {T : Tk} {N : Nm} {C D : Co} {M : Mc} (h : Nat) (ht : M.2.2.2.2.1 ≤ 21) (hj : ¬ (mc_two M).2.1 = 0) : XC l (Gz z) (h + 2) y_Mc_combine b_Mc_combine 4 none [.ref (a 13), .int (nI 11)] (cw z a u w P F T N C D M) (.inl none) (cw z a u w P F T N C D (mc_comb M 11)) := by
  refine XC.ofV (by decide +kernel) rfl ?_
  intro p e s m below meth c X hnm
  refine V.lvs (lv' := [(0, .ref (a 13)), (1, .int (nI 11))]) rfl ?_
  refine V.aload_n X d_Mc_combine_0 rfl ?_
  refine V.callV1 X (c_Mc_pop (h + 1) ht) Y_Mc_pop k_Mc_101 13 rfl rfl rfl rfl rfl (Rok.lt (by omega)) d_Mc_combine_1 ?_
  refine V.istore_n (lv' := [(0, _), (1, _), (2, _)]) X d_Mc_combine_4 (by decide) rfl ?_
  refine V.aload_n X d_Mc_combine_5 rfl ?_
  refine V.callV1 X (c_Mc_pop (h + 1) (mc_pop_top ht)) Y_Mc_pop k_Mc_101 13 rfl rfl rfl rfl rfl (Rok.lt (by omega)) d_Mc_combine_6 ?_
  have ht2 := mc_pop_top (mc_pop_top ht)
  refine V.istore_n (lv' := [(0, _), (1, _), (2, _), (3, _)]) X d_Mc_combine_9 (by decide) rfl ?_
  refine V.iload_n X d_Mc_combine_10 rfl ?_
  refine V.bipush (v := nI 13) X d_Mc_combine_11 (by decide +kernel) ?_
  refine V.cmpN_lt (tgt := 37) X d_Mc_combine_13 (by decide) (by first | omega | (dsimp only; omega) | (simp only [] at *; omega)) (by first | omega | (dsimp only; omega) | (simp only [] at *; omega)) (fun h13 => ?_) (fun h13 => absurd h13 (by decide))
  refine V.aload_n X d_Mc_combine_37 rfl ?_
  refine V.iload_n X d_Mc_combine_38 rfl ?_
  refine V.iload_n X d_Mc_combine_39 rfl ?_
  refine V.iload_n X d_Mc_combine_40 rfl ?_
  refine V.callS1 X (c_Mc_calculate11 h hj) Y_Mc_calculate k_Mc_127 rfl rfl rfl (Rok.lt (by omega)) d_Mc_combine_41 ?_
  refine V.callV0 X (c_Mc_push (h + 1) (by omega)) Y_Mc_push k_Mc_89 13 rfl rfl rfl rfl rfl (Rok.lt (by omega)) d_Mc_combine_44 ?_
  exact V.vret X d_Mc_combine_47 rfl rfl
set_option maxHeartbeats 4000000 in
set_option maxRecDepth 100000 in
theorem c_Mc_combine11X {l : Launch} {z : Zt} {a u w : Nat → Nat} {P : Pm} {F : Int32} {T : Tk} {N : Nm} {C D : Co} {M : Mc} (h : Nat) (hlt : l.stackTraces = false) (ht : M.2.2.2.2.1 ≤ 21) (hj : (mc_two M).2.1 = 0) : XC l (Gz z) (h + 2) y_Mc_combine b_Mc_combine 4 none [.ref (a 13), .int (nI 11)] (cw z a u w P F T N C D M) (.inr ARE) (cw z a u w P F T N C D (mc_two M).2.2) := by
  refine XC.ofV (by decide +kernel) rfl ?_
  intro p e s m below meth c X hnm
  refine V.lvs (lv' := [(0, .ref (a 13)), (1, .int (nI 11))]) rfl ?_
  refine V.aload_n X d_Mc_combine_0 rfl ?_
  refine V.callV1 X (c_Mc_pop (h + 1) ht) Y_Mc_pop k_Mc_101 13 rfl rfl rfl rfl rfl (Rok.lt (by omega)) d_Mc_combine_1 ?_
  refine V.istore_n (lv' := [(0, _), (1, _), (2, _)]) X d_Mc_combine_4 (by decide) rfl ?_
  refine V.aload_n X d_Mc_combine_5 rfl ?_
  refine V.callV1 X (c_Mc_pop (h + 1) (mc_pop_top ht)) Y_Mc_pop k_Mc_101 13 rfl rfl rfl rfl rfl (Rok.lt (by omega)) d_Mc_combine_6 ?_
  have ht2 := mc_pop_top (mc_pop_top ht)
  refine V.istore_n (lv' := [(0, _), (1, _), (2, _), (3, _)]) X d_Mc_combine_9 (by decide) rfl ?_
  refine V.iload_n X d_Mc_combine_10 rfl ?_
  refine V.bipush (v := nI 13) X d_Mc_combine_11 (by decide +kernel) ?_
  refine V.cmpN_lt (tgt := 37) X d_Mc_combine_13 (by decide) (by first | omega | (dsimp only; omega) | (simp only [] at *; omega)) (by first | omega | (dsimp only; omega) | (simp only [] at *; omega)) (fun h13 => ?_) (fun h13 => absurd h13 (by decide))
  refine V.aload_n X d_Mc_combine_37 rfl ?_
  refine V.iload_n X d_Mc_combine_38 rfl ?_
  refine V.iload_n X d_Mc_combine_39 rfl ?_
  refine V.iload_n X d_Mc_combine_40 rfl ?_
  exact V.callSX X (c_Mc_calculate11X h hlt hj) Y_Mc_calculate k_Mc_127 rfl rfl rfl (Rok.lt (by omega)) d_Mc_combine_41 rfl rfl
set_option maxHeartbeats 4000000 in
set_option maxRecDepth 100000 in
theorem c_Mc_combine12 {l : Launch} {z : Zt} {a u w : Nat → Nat} {P : Pm} {F : Int32} {T : Tk} {N : Nm} {C D : Co} {M : Mc} (h : Nat) (ht : M.2.2.2.2.1 ≤ 21) (hj : ¬ (mc_two M).2.1 = 0) : XC l (Gz z) (h + 2) y_Mc_combine b_Mc_combine 4 none [.ref (a 13), .int (nI 12)] (cw z a u w P F T N C D M) (.inl none) (cw z a u w P F T N C D (mc_comb M 12)) := by
  refine XC.ofV (by decide +kernel) rfl ?_
  intro p e s m below meth c X hnm
  refine V.lvs (lv' := [(0, .ref (a 13)), (1, .int (nI 12))]) rfl ?_
  refine V.aload_n X d_Mc_combine_0 rfl ?_
  refine V.callV1 X (c_Mc_pop (h + 1) ht) Y_Mc_pop k_Mc_101 13 rfl rfl rfl rfl rfl (Rok.lt (by omega)) d_Mc_combine_1 ?_
  refine V.istore_n (lv' := [(0, _), (1, _), (2, _)]) X d_Mc_combine_4 (by decide) rfl ?_
  refine V.aload_n X d_Mc_combine_5 rfl ?_
  refine V.callV1 X (c_Mc_pop (h + 1) (mc_pop_top ht)) Y_Mc_pop k_Mc_101 13 rfl rfl rfl rfl rfl (Rok.lt (by omega)) d_Mc_combine_6 ?_
  have ht2 := mc_pop_top (mc_pop_top ht)
  refine V.istore_n (lv' := [(0, _), (1, _), (2, _), (3, _)]) X d_Mc_combine_9 (by decide) rfl ?_
  refine V.iload_n X d_Mc_combine_10 rfl ?_
  refine V.bipush (v := nI 13) X d_Mc_combine_11 (by decide +kernel) ?_
  refine V.cmpN_lt (tgt := 37) X d_Mc_combine_13 (by decide) (by first | omega | (dsimp only; omega) | (simp only [] at *; omega)) (by first | omega | (dsimp only; omega) | (simp only [] at *; omega)) (fun h13 => ?_) (fun h13 => absurd h13 (by decide))
  refine V.aload_n X d_Mc_combine_37 rfl ?_
  refine V.iload_n X d_Mc_combine_38 rfl ?_
  refine V.iload_n X d_Mc_combine_39 rfl ?_
  refine V.iload_n X d_Mc_combine_40 rfl ?_
  refine V.callS1 X (c_Mc_calculate12 h hj) Y_Mc_calculate k_Mc_127 rfl rfl rfl (Rok.lt (by omega)) d_Mc_combine_41 ?_
  refine V.callV0 X (c_Mc_push (h + 1) (by omega)) Y_Mc_push k_Mc_89 13 rfl rfl rfl rfl rfl (Rok.lt (by omega)) d_Mc_combine_44 ?_
  exact V.vret X d_Mc_combine_47 rfl rfl
set_option maxHeartbeats 4000000 in
set_option maxRecDepth 100000 in
theorem c_Mc_combine12X {l : Launch} {z : Zt} {a u w : Nat → Nat} {P : Pm} {F : Int32} {T : Tk} {N : Nm} {C D : Co} {M : Mc} (h : Nat) (hlt : l.stackTraces = false) (ht : M.2.2.2.2.1 ≤ 21) (hj : (mc_two M).2.1 = 0) : XC l (Gz z) (h + 2) y_Mc_combine b_Mc_combine 4 none [.ref (a 13), .int (nI 12)] (cw z a u w P F T N C D M) (.inr ARE) (cw z a u w P F T N C D (mc_two M).2.2) := by
  refine XC.ofV (by decide +kernel) rfl ?_
  intro p e s m below meth c X hnm
  refine V.lvs (lv' := [(0, .ref (a 13)), (1, .int (nI 12))]) rfl ?_
  refine V.aload_n X d_Mc_combine_0 rfl ?_
  refine V.callV1 X (c_Mc_pop (h + 1) ht) Y_Mc_pop k_Mc_101 13 rfl rfl rfl rfl rfl (Rok.lt (by omega)) d_Mc_combine_1 ?_
  refine V.istore_n (lv' := [(0, _), (1, _), (2, _)]) X d_Mc_combine_4 (by decide) rfl ?_
  refine V.aload_n X d_Mc_combine_5 rfl ?_
  refine V.callV1 X (c_Mc_pop (h + 1) (mc_pop_top ht)) Y_Mc_pop k_Mc_101 13 rfl rfl rfl rfl rfl (Rok.lt (by omega)) d_Mc_combine_6 ?_
  have ht2 := mc_pop_top (mc_pop_top ht)
  refine V.istore_n (lv' := [(0, _), (1, _), (2, _), (3, _)]) X d_Mc_combine_9 (by decide) rfl ?_
  refine V.iload_n X d_Mc_combine_10 rfl ?_
  refine V.bipush (v := nI 13) X d_Mc_combine_11 (by decide +kernel) ?_
  refine V.cmpN_lt (tgt := 37) X d_Mc_combine_13 (by decide) (by first | omega | (dsimp only; omega) | (simp only [] at *; omega)) (by first | omega | (dsimp only; omega) | (simp only [] at *; omega)) (fun h13 => ?_) (fun h13 => absurd h13 (by decide))
  refine V.aload_n X d_Mc_combine_37 rfl ?_
  refine V.iload_n X d_Mc_combine_38 rfl ?_
  refine V.iload_n X d_Mc_combine_39 rfl ?_
  refine V.iload_n X d_Mc_combine_40 rfl ?_
  exact V.callSX X (c_Mc_calculate12X h hlt hj) Y_Mc_calculate k_Mc_127 rfl rfl rfl (Rok.lt (by omega)) d_Mc_combine_41 rfl rfl
set_option maxHeartbeats 4000000 in
set_option maxRecDepth 100000 in
theorem c_Mc_combine13 {l : Launch} {z : Zt} {a u w : Nat → Nat} {P : Pm} {F : Int32} {T : Tk} {N : Nm} {C D : Co} {M : Mc} (h : Nat) (ht : M.2.2.2.2.1 ≤ 21) : XC l (Gz z) (h + 2) y_Mc_combine b_Mc_combine 4 none [.ref (a 13), .int (nI 13)] (cw z a u w P F T N C D M) (.inl none) (cw z a u w P F T N C D (mc_comb M 13)) := by
  refine XC.ofV (by decide +kernel) rfl ?_
  intro p e s m below meth c X hnm
  refine V.lvs (lv' := [(0, .ref (a 13)), (1, .int (nI 13))]) rfl ?_
  refine V.aload_n X d_Mc_combine_0 rfl ?_
  refine V.callV1 X (c_Mc_pop (h + 1) ht) Y_Mc_pop k_Mc_101 13 rfl rfl rfl rfl rfl (Rok.lt (by omega)) d_Mc_combine_1 ?_
  refine V.istore_n (lv' := [(0, _), (1, _), (2, _)]) X d_Mc_combine_4 (by decide) rfl ?_
  refine V.aload_n X d_Mc_combine_5 rfl ?_
  refine V.callV1 X (c_Mc_pop (h + 1) (mc_pop_top ht)) Y_Mc_pop k_Mc_101 13 rfl rfl rfl rfl rfl (Rok.lt (by omega)) d_Mc_combine_6 ?_
  have ht2 := mc_pop_top (mc_pop_top ht)
  refine V.istore_n (lv' := [(0, _), (1, _), (2, _), (3, _)]) X d_Mc_combine_9 (by decide) rfl ?_
  refine V.iload_n X d_Mc_combine_10 rfl ?_
  refine V.bipush (v := nI 13) X d_Mc_combine_11 (by decide +kernel) ?_
  refine V.cmpN_lt (tgt := 37) X d_Mc_combine_13 (by decide) (by first | omega | (dsimp only; omega) | (simp only [] at *; omega)) (by first | omega | (dsimp only; omega) | (simp only [] at *; omega)) (fun h13 => absurd h13 (by decide)) (fun h13 => ?_)
  refine V.aload_n X d_Mc_combine_16 rfl ?_
  refine V.iload_n X d_Mc_combine_17 rfl ?_
  refine V.iload_n X d_Mc_combine_18 rfl ?_
  refine V.iload_n X d_Mc_combine_19 rfl ?_
  refine V.callS1 X (c_Mc_isTrue13 (h + 1)) Y_Mc_isTrue k_Mc_123 rfl rfl rfl (Rok.lt (by omega)) d_Mc_combine_20 ?_
  refine V.ifB_eq (tgt := 30) X d_Mc_combine_23 (by decide) (fun h23 => ?_) (fun h23 => ?_)
  · rw [show mc_comb M 13 = mc_push (mc_pop (mc_pop M).2).2 (nI 0) from by rw [mc_comb, if_pos (by decide)]; exact congrArg _ (bI_f h23).symm]
    refine V.iconst (v := nI 0) X d_Mc_combine_30 (by decide +kernel) ?_
    refine V.callV0 X (c_Mc_push (h + 1) (by omega)) Y_Mc_push k_Mc_89 13 rfl rfl rfl rfl rfl (Rok.lt (by omega)) d_Mc_combine_31 ?_
    refine V.goto (tgt := 47) X d_Mc_combine_34 (by decide) ?_
    exact V.vret X d_Mc_combine_47 rfl rfl
  · rw [show mc_comb M 13 = mc_push (mc_pop (mc_pop M).2).2 (nI 1) from by rw [mc_comb, if_pos (by decide)]; exact congrArg _ (bI_t h23).symm]
    refine V.iconst (v := nI 1) X d_Mc_combine_26 (by decide +kernel) ?_
    refine V.goto (tgt := 31) X d_Mc_combine_27 (by decide) ?_
    refine V.callV0 X (c_Mc_push (h + 1) (by omega)) Y_Mc_push k_Mc_89 13 rfl rfl rfl rfl rfl (Rok.lt (by omega)) d_Mc_combine_31 ?_
    refine V.goto (tgt := 47) X d_Mc_combine_34 (by decide) ?_
    exact V.vret X d_Mc_combine_47 rfl rfl
set_option maxHeartbeats 4000000 in
set_option maxRecDepth 100000 in
theorem c_Mc_combine14 {l : Launch} {z : Zt} {a u w : Nat → Nat} {P : Pm} {F : Int32} {T : Tk} {N : Nm} {C D : Co} {M : Mc} (h : Nat) (ht : M.2.2.2.2.1 ≤ 21) : XC l (Gz z) (h + 2) y_Mc_combine b_Mc_combine 4 none [.ref (a 13), .int (nI 14)] (cw z a u w P F T N C D M) (.inl none) (cw z a u w P F T N C D (mc_comb M 14)) := by
  refine XC.ofV (by decide +kernel) rfl ?_
  intro p e s m below meth c X hnm
  refine V.lvs (lv' := [(0, .ref (a 13)), (1, .int (nI 14))]) rfl ?_
  refine V.aload_n X d_Mc_combine_0 rfl ?_
  refine V.callV1 X (c_Mc_pop (h + 1) ht) Y_Mc_pop k_Mc_101 13 rfl rfl rfl rfl rfl (Rok.lt (by omega)) d_Mc_combine_1 ?_
  refine V.istore_n (lv' := [(0, _), (1, _), (2, _)]) X d_Mc_combine_4 (by decide) rfl ?_
  refine V.aload_n X d_Mc_combine_5 rfl ?_
  refine V.callV1 X (c_Mc_pop (h + 1) (mc_pop_top ht)) Y_Mc_pop k_Mc_101 13 rfl rfl rfl rfl rfl (Rok.lt (by omega)) d_Mc_combine_6 ?_
  have ht2 := mc_pop_top (mc_pop_top ht)
  refine V.istore_n (lv' := [(0, _), (1, _), (2, _), (3, _)]) X d_Mc_combine_9 (by decide) rfl ?_
  refine V.iload_n X d_Mc_combine_10 rfl ?_
  refine V.bipush (v := nI 13) X d_Mc_combine_11 (by decide +kernel) ?_
  refine V.cmpN_lt (tgt := 37) X d_Mc_combine_13 (by decide) (by first | omega | (dsimp only; omega) | (simp only [] at *; omega)) (by first | omega | (dsimp only; omega) | (simp only [] at *; omega)) (fun h13 => absurd h13 (by decide)) (fun h13 => ?_)
  refine V.aload_n X d_Mc_combine_16 rfl ?_
  refine V.iload_n X d_Mc_combine_17 rfl ?_
  refine V.iload_n X d_Mc_combine_18 rfl ?_
  refine V.iload_n X d_Mc_combine_19 rfl ?_
  refine V.callS1 X (c_Mc_isTrue14 (h + 1)) Y_Mc_isTrue k_Mc_123 rfl rfl rfl (Rok.lt (by omega)) d_Mc_combine_20 ?_
  refine V.ifB_eq (tgt := 30) X d_Mc_combine_23 (by decide) (fun h23 => ?_) (fun h23 => ?_)
  · rw [show mc_comb M 14 = mc_push (mc_pop (mc_pop M).2).2 (nI 0) from by rw [mc_comb, if_pos (by decide)]; exact congrArg _ (bI_f h23).symm]
    refine V.iconst (v := nI 0) X d_Mc_combine_30 (by decide +kernel) ?_
    refine V.callV0 X (c_Mc_push (h + 1) (by omega)) Y_Mc_push k_Mc_89 13 rfl rfl rfl rfl rfl (Rok.lt (by omega)) d_Mc_combine_31 ?_
    refine V.goto (tgt := 47) X d_Mc_combine_34 (by decide) ?_
    exact V.vret X d_Mc_combine_47 rfl rfl
  · rw [show mc_comb M 14 = mc_push (mc_pop (mc_pop M).2).2 (nI 1) from by rw [mc_comb, if_pos (by decide)]; exact congrArg _ (bI_t h23).symm]
    refine V.iconst (v := nI 1) X d_Mc_combine_26 (by decide +kernel) ?_
    refine V.goto (tgt := 31) X d_Mc_combine_27 (by decide) ?_
    refine V.callV0 X (c_Mc_push (h + 1) (by omega)) Y_Mc_push k_Mc_89 13 rfl rfl rfl rfl rfl (Rok.lt (by omega)) d_Mc_combine_31 ?_
    refine V.goto (tgt := 47) X d_Mc_combine_34 (by decide) ?_
    exact V.vret X d_Mc_combine_47 rfl rfl
set_option maxHeartbeats 4000000 in
set_option maxRecDepth 100000 in
theorem c_Mc_combine15 {l : Launch} {z : Zt} {a u w : Nat → Nat} {P : Pm} {F : Int32} {T : Tk} {N : Nm} {C D : Co} {M : Mc} (h : Nat) (ht : M.2.2.2.2.1 ≤ 21) : XC l (Gz z) (h + 2) y_Mc_combine b_Mc_combine 4 none [.ref (a 13), .int (nI 15)] (cw z a u w P F T N C D M) (.inl none) (cw z a u w P F T N C D (mc_comb M 15)) := by
  refine XC.ofV (by decide +kernel) rfl ?_
  intro p e s m below meth c X hnm
  refine V.lvs (lv' := [(0, .ref (a 13)), (1, .int (nI 15))]) rfl ?_
  refine V.aload_n X d_Mc_combine_0 rfl ?_
  refine V.callV1 X (c_Mc_pop (h + 1) ht) Y_Mc_pop k_Mc_101 13 rfl rfl rfl rfl rfl (Rok.lt (by omega)) d_Mc_combine_1 ?_
  refine V.istore_n (lv' := [(0, _), (1, _), (2, _)]) X d_Mc_combine_4 (by decide) rfl ?_
  refine V.aload_n X d_Mc_combine_5 rfl ?_
  refine V.callV1 X (c_Mc_pop (h + 1) (mc_pop_top ht)) Y_Mc_pop k_Mc_101 13 rfl rfl rfl rfl rfl (Rok.lt (by omega)) d_Mc_combine_6 ?_
  have ht2 := mc_pop_top (mc_pop_top ht)
  refine V.istore_n (lv' := [(0, _), (1, _), (2, _), (3, _)]) X d_Mc_combine_9 (by decide) rfl ?_
  refine V.iload_n X d_Mc_combine_10 rfl ?_
  refine V.bipush (v := nI 13) X d_Mc_combine_11 (by decide +kernel) ?_
  refine V.cmpN_lt (tgt := 37) X d_Mc_combine_13 (by decide) (by first | omega | (dsimp only; omega) | (simp only [] at *; omega)) (by first | omega | (dsimp only; omega) | (simp only [] at *; omega)) (fun h13 => absurd h13 (by decide)) (fun h13 => ?_)
  refine V.aload_n X d_Mc_combine_16 rfl ?_
  refine V.iload_n X d_Mc_combine_17 rfl ?_
  refine V.iload_n X d_Mc_combine_18 rfl ?_
  refine V.iload_n X d_Mc_combine_19 rfl ?_
  refine V.callS1 X (c_Mc_isTrue15 (h + 1)) Y_Mc_isTrue k_Mc_123 rfl rfl rfl (Rok.lt (by omega)) d_Mc_combine_20 ?_
  refine V.ifB_eq (tgt := 30) X d_Mc_combine_23 (by decide) (fun h23 => ?_) (fun h23 => ?_)
  · rw [show mc_comb M 15 = mc_push (mc_pop (mc_pop M).2).2 (nI 0) from by rw [mc_comb, if_pos (by decide)]; exact congrArg _ (bI_f h23).symm]
    refine V.iconst (v := nI 0) X d_Mc_combine_30 (by decide +kernel) ?_
    refine V.callV0 X (c_Mc_push (h + 1) (by omega)) Y_Mc_push k_Mc_89 13 rfl rfl rfl rfl rfl (Rok.lt (by omega)) d_Mc_combine_31 ?_
    refine V.goto (tgt := 47) X d_Mc_combine_34 (by decide) ?_
    exact V.vret X d_Mc_combine_47 rfl rfl
  · rw [show mc_comb M 15 = mc_push (mc_pop (mc_pop M).2).2 (nI 1) from by rw [mc_comb, if_pos (by decide)]; exact congrArg _ (bI_t h23).symm]
    refine V.iconst (v := nI 1) X d_Mc_combine_26 (by decide +kernel) ?_
    refine V.goto (tgt := 31) X d_Mc_combine_27 (by decide) ?_
    refine V.callV0 X (c_Mc_push (h + 1) (by omega)) Y_Mc_push k_Mc_89 13 rfl rfl rfl rfl rfl (Rok.lt (by omega)) d_Mc_combine_31 ?_
    refine V.goto (tgt := 47) X d_Mc_combine_34 (by decide) ?_
    exact V.vret X d_Mc_combine_47 rfl rfl
