/-! ===== Model: what its methods share ===== -/
theorem or_t {c P Q : Prop} (h : (c ∧ P) ∨ (¬ c ∧ Q)) (hc : c) : P := h.elim (fun q => q.2) (fun q => absurd hc q.1)
theorem or_f {c P Q : Prop} (h : (c ∧ P) ∨ (¬ c ∧ Q)) (hc : ¬ c) : Q := h.elim (fun q => absurd q.1 hc) (fun q => q.2)
theorem V.top {p : Program} {l : Launch} {e : Env} {R : Room} {s : State} {m : MethodId} {args : Array Value} {below : List Frame} {meth : Method} {c : Code} {G : Gm} {nL cells slots : Nat} {Q : State → Prop} {ws : va_W} {pc : Nat} {lv : List (Nat × Value)} {v v' : Value} {sk : List Value} (h : v = v') (k : V p l e R s m args below meth c G nL cells slots Q ws pc lv (v' :: sk)) : V p l e R s m args below meth c G nL cells slots Q ws pc lv (v :: sk) := h ▸ k
theorem dec_nI {x : Nat} (h : 1 ≤ x) : nI x + Int32.ofInt (-1) = nI (x - 1) := by
  obtain ⟨j, rfl⟩ : ∃ j, x = j + 1 := ⟨x - 1, by omega⟩
  exact pk_m1 j
def predO : Nat → Option Nat
  | 0 => none
  | n + 1 => some n
theorem predO_sub (x : Nat) : nI x - nI 1 = fI (predO x) := by
  cases x with
  | zero => decide +kernel
  | succ n => exact nI_pred n
theorem va_same {α : Type} (f : Nat → α) (k : Nat) (x : α) : va_up f k x k = x := by unfold va_up; rw [if_pos rfl]
theorem upd_same (f : Nat → Int32) (k : Nat) (x : Int32) : upd f k x k = x := by unfold upd; rw [if_pos rfl]
def isS (c : Nat) : Bool := (decide (40 ≤ c) && decide (c ≤ 47)) || decide (c = 59) || (decide (60 ≤ c) && decide (c ≤ 62)) || decide (c = 37) || decide (c = 64)
def isOp (k : Nat) : Bool := decide (k = 43) || decide (k = 45) || decide (k = 42) || decide (k = 47) || decide (k = 37)
def wk (w : Int64) : Nat := if w = 7758194 then 3 else if w = 1886547811 then 4 else if w = 422608071022 then 5 else if w = 6647396 then 6 else if w = 26982 then 7 else if w = 1952998766 then 8 else if w = 1701606245 then 9 else if w = 512852847717 then 10 else if w = 25711 then 11 else if w = 513020621925 then 12 else 1
set_option maxHeartbeats 4000000 in
theorem c_Mo_letter {l : Launch} {z : Zt} {b : Nat → Nat} {S : MS} (h : Nat) {x : Nat} (hx : x < 2 ^ 31) : XC l (Gz z) h y_Mo_letter b_Mo_letter 1 (some .boolean) [.int (nI x)] (mw z b S) (.inl (some (.int (bI (isL x))))) (mw z b S) := by
  refine XC.ofV (by decide +kernel) rfl ?_
  intro p e s m below meth c X hnm
  refine V.lvs (lv' := [(0, .int (nI x))]) rfl ?_
  refine V.iload_n X d_Mo_letter_0 rfl ?_
  refine V.bipush (v := nI 97) X d_Mo_letter_1 (by decide +kernel) ?_
  refine V.cmpN_lt (tgt := 16) X d_Mo_letter_3 (by decide) (by first | omega | (dsimp only; omega) | (simp only [] at *; omega)) (by first | omega | (dsimp only; omega) | (simp only [] at *; omega)) (fun h3 => ?_) (fun h3 => ?_)
  · refine V.iconst (v := nI 0) X d_Mo_letter_16 (by decide +kernel) ?_
    exact V.zret X d_Mo_letter_17 (by first | exact Or.inl rfl | exact Or.inr rfl | (unfold bI; split; exact Or.inr rfl; exact Or.inl rfl)) (by simp [bI, isL]; omega) rfl
  · refine V.iload_n X d_Mo_letter_6 rfl ?_
    refine V.bipush (v := nI 122) X d_Mo_letter_7 (by decide +kernel) ?_
    refine V.cmpN_gt (tgt := 16) X d_Mo_letter_9 (by decide) (by first | omega | (dsimp only; omega) | (simp only [] at *; omega)) (by first | omega | (dsimp only; omega) | (simp only [] at *; omega)) (fun h9 => ?_) (fun h9 => ?_)
    · refine V.iconst (v := nI 0) X d_Mo_letter_16 (by decide +kernel) ?_
      exact V.zret X d_Mo_letter_17 (by first | exact Or.inl rfl | exact Or.inr rfl | (unfold bI; split; exact Or.inr rfl; exact Or.inl rfl)) (by simp [bI, isL]; omega) rfl
    · refine V.iconst (v := nI 1) X d_Mo_letter_12 (by decide +kernel) ?_
      refine V.goto (tgt := 17) X d_Mo_letter_13 (by decide) ?_
      exact V.zret X d_Mo_letter_17 (by first | exact Or.inl rfl | exact Or.inr rfl | (unfold bI; split; exact Or.inr rfl; exact Or.inl rfl)) (by simp [bI, isL]; omega) rfl
set_option maxHeartbeats 4000000 in
theorem c_Mo_digit {l : Launch} {z : Zt} {b : Nat → Nat} {S : MS} (h : Nat) {x : Nat} (hx : x < 2 ^ 31) : XC l (Gz z) h y_Mo_digit b_Mo_digit 1 (some .boolean) [.int (nI x)] (mw z b S) (.inl (some (.int (bI (isD x))))) (mw z b S) := by
  refine XC.ofV (by decide +kernel) rfl ?_
  intro p e s m below meth c X hnm
  refine V.lvs (lv' := [(0, .int (nI x))]) rfl ?_
  refine V.iload_n X d_Mo_digit_0 rfl ?_
  refine V.bipush (v := nI 48) X d_Mo_digit_1 (by decide +kernel) ?_
  refine V.cmpN_lt (tgt := 16) X d_Mo_digit_3 (by decide) (by first | omega | (dsimp only; omega) | (simp only [] at *; omega)) (by first | omega | (dsimp only; omega) | (simp only [] at *; omega)) (fun h3 => ?_) (fun h3 => ?_)
  · refine V.iconst (v := nI 0) X d_Mo_digit_16 (by decide +kernel) ?_
    exact V.zret X d_Mo_digit_17 (by first | exact Or.inl rfl | exact Or.inr rfl | (unfold bI; split; exact Or.inr rfl; exact Or.inl rfl)) (by simp [bI, isD]; omega) rfl
  · refine V.iload_n X d_Mo_digit_6 rfl ?_
    refine V.bipush (v := nI 57) X d_Mo_digit_7 (by decide +kernel) ?_
    refine V.cmpN_gt (tgt := 16) X d_Mo_digit_9 (by decide) (by first | omega | (dsimp only; omega) | (simp only [] at *; omega)) (by first | omega | (dsimp only; omega) | (simp only [] at *; omega)) (fun h9 => ?_) (fun h9 => ?_)
    · refine V.iconst (v := nI 0) X d_Mo_digit_16 (by decide +kernel) ?_
      exact V.zret X d_Mo_digit_17 (by first | exact Or.inl rfl | exact Or.inr rfl | (unfold bI; split; exact Or.inr rfl; exact Or.inl rfl)) (by simp [bI, isD]; omega) rfl
    · refine V.iconst (v := nI 1) X d_Mo_digit_12 (by decide +kernel) ?_
      refine V.goto (tgt := 17) X d_Mo_digit_13 (by decide) ?_
      exact V.zret X d_Mo_digit_17 (by first | exact Or.inl rfl | exact Or.inr rfl | (unfold bI; split; exact Or.inr rfl; exact Or.inl rfl)) (by simp [bI, isD]; omega) rfl
set_option maxHeartbeats 4000000 in
theorem c_Mo_sign {l : Launch} {z : Zt} {b : Nat → Nat} {S : MS} (h : Nat) {x : Nat} (hx : x < 2 ^ 31) : XC l (Gz z) h y_Mo_sign b_Mo_sign 1 (some .boolean) [.int (nI x)] (mw z b S) (.inl (some (.int (bI (isS x))))) (mw z b S) := by
  refine XC.ofV (by decide +kernel) rfl ?_
  intro p e s m below meth c X hnm
  refine V.lvs (lv' := [(0, .int (nI x))]) rfl ?_
  refine V.iload_n X d_Mo_sign_0 rfl ?_
  refine V.bipush (v := nI 40) X d_Mo_sign_1 (by decide +kernel) ?_
  refine V.cmpN_lt (tgt := 12) X d_Mo_sign_3 (by decide) (by first | omega | (dsimp only; omega) | (simp only [] at *; omega)) (by first | omega | (dsimp only; omega) | (simp only [] at *; omega)) (fun h3 => ?_) (fun h3 => ?_)
  · refine V.iload_n X d_Mo_sign_12 rfl ?_
    refine V.bipush (v := nI 59) X d_Mo_sign_13 (by decide +kernel) ?_
    refine V.cmpN_eq (tgt := 42) X d_Mo_sign_15 (by decide) (by first | omega | (dsimp only; omega) | (simp only [] at *; omega)) (by first | omega | (dsimp only; omega) | (simp only [] at *; omega)) (fun h15 => ?_) (fun h15 => ?_)
    · refine V.iconst (v := nI 1) X d_Mo_sign_42 (by decide +kernel) ?_
      refine V.goto (tgt := 47) X d_Mo_sign_43 (by decide) ?_
      exact V.zret X d_Mo_sign_47 (by first | exact Or.inl rfl | exact Or.inr rfl | (unfold bI; split; exact Or.inr rfl; exact Or.inl rfl)) (by congr 4; simp [bI, isS]; omega) rfl
    · refine V.iload_n X d_Mo_sign_18 rfl ?_
      refine V.bipush (v := nI 60) X d_Mo_sign_19 (by decide +kernel) ?_
      refine V.cmpN_lt (tgt := 30) X d_Mo_sign_21 (by decide) (by first | omega | (dsimp only; omega) | (simp only [] at *; omega)) (by first | omega | (dsimp only; omega) | (simp only [] at *; omega)) (fun h21 => ?_) (fun h21 => ?_)
      · refine V.iload_n X d_Mo_sign_30 rfl ?_
        refine V.bipush (v := nI 37) X d_Mo_sign_31 (by decide +kernel) ?_
        refine V.cmpN_eq (tgt := 42) X d_Mo_sign_33 (by decide) (by first | omega | (dsimp only; omega) | (simp only [] at *; omega)) (by first | omega | (dsimp only; omega) | (simp only [] at *; omega)) (fun h33 => ?_) (fun h33 => ?_)
        · refine V.iconst (v := nI 1) X d_Mo_sign_42 (by decide +kernel) ?_
          refine V.goto (tgt := 47) X d_Mo_sign_43 (by decide) ?_
          exact V.zret X d_Mo_sign_47 (by first | exact Or.inl rfl | exact Or.inr rfl | (unfold bI; split; exact Or.inr rfl; exact Or.inl rfl)) (by congr 4; simp [bI, isS]; omega) rfl
        · refine V.iload_n X d_Mo_sign_36 rfl ?_
          refine V.bipush (v := nI 64) X d_Mo_sign_37 (by decide +kernel) ?_
          refine V.cmpN_ne (tgt := 46) X d_Mo_sign_39 (by decide) (by first | omega | (dsimp only; omega) | (simp only [] at *; omega)) (by first | omega | (dsimp only; omega) | (simp only [] at *; omega)) (fun h39 => ?_) (fun h39 => ?_)
          · refine V.iconst (v := nI 0) X d_Mo_sign_46 (by decide +kernel) ?_
            exact V.zret X d_Mo_sign_47 (by first | exact Or.inl rfl | exact Or.inr rfl | (unfold bI; split; exact Or.inr rfl; exact Or.inl rfl)) (by congr 4; simp [bI, isS]; omega) rfl
          · refine V.iconst (v := nI 1) X d_Mo_sign_42 (by decide +kernel) ?_
            refine V.goto (tgt := 47) X d_Mo_sign_43 (by decide) ?_
            exact V.zret X d_Mo_sign_47 (by first | exact Or.inl rfl | exact Or.inr rfl | (unfold bI; split; exact Or.inr rfl; exact Or.inl rfl)) (by congr 4; simp [bI, isS]; omega) rfl
      · refine V.iload_n X d_Mo_sign_24 rfl ?_
        refine V.bipush (v := nI 62) X d_Mo_sign_25 (by decide +kernel) ?_
        refine V.cmpN_le (tgt := 42) X d_Mo_sign_27 (by decide) (by first | omega | (dsimp only; omega) | (simp only [] at *; omega)) (by first | omega | (dsimp only; omega) | (simp only [] at *; omega)) (fun h27 => ?_) (fun h27 => ?_)
        · refine V.iconst (v := nI 1) X d_Mo_sign_42 (by decide +kernel) ?_
          refine V.goto (tgt := 47) X d_Mo_sign_43 (by decide) ?_
          exact V.zret X d_Mo_sign_47 (by first | exact Or.inl rfl | exact Or.inr rfl | (unfold bI; split; exact Or.inr rfl; exact Or.inl rfl)) (by congr 4; simp [bI, isS]; omega) rfl
        · refine V.iload_n X d_Mo_sign_30 rfl ?_
          refine V.bipush (v := nI 37) X d_Mo_sign_31 (by decide +kernel) ?_
          refine V.cmpN_eq (tgt := 42) X d_Mo_sign_33 (by decide) (by first | omega | (dsimp only; omega) | (simp only [] at *; omega)) (by first | omega | (dsimp only; omega) | (simp only [] at *; omega)) (fun h33 => ?_) (fun h33 => ?_)
          · refine V.iconst (v := nI 1) X d_Mo_sign_42 (by decide +kernel) ?_
            refine V.goto (tgt := 47) X d_Mo_sign_43 (by decide) ?_
            exact V.zret X d_Mo_sign_47 (by first | exact Or.inl rfl | exact Or.inr rfl | (unfold bI; split; exact Or.inr rfl; exact Or.inl rfl)) (by congr 4; simp [bI, isS]; omega) rfl
          · refine V.iload_n X d_Mo_sign_36 rfl ?_
            refine V.bipush (v := nI 64) X d_Mo_sign_37 (by decide +kernel) ?_
            refine V.cmpN_ne (tgt := 46) X d_Mo_sign_39 (by decide) (by first | omega | (dsimp only; omega) | (simp only [] at *; omega)) (by first | omega | (dsimp only; omega) | (simp only [] at *; omega)) (fun h39 => ?_) (fun h39 => ?_)
            · refine V.iconst (v := nI 0) X d_Mo_sign_46 (by decide +kernel) ?_
              exact V.zret X d_Mo_sign_47 (by first | exact Or.inl rfl | exact Or.inr rfl | (unfold bI; split; exact Or.inr rfl; exact Or.inl rfl)) (by congr 4; simp [bI, isS]; omega) rfl
            · refine V.iconst (v := nI 1) X d_Mo_sign_42 (by decide +kernel) ?_
              refine V.goto (tgt := 47) X d_Mo_sign_43 (by decide) ?_
              exact V.zret X d_Mo_sign_47 (by first | exact Or.inl rfl | exact Or.inr rfl | (unfold bI; split; exact Or.inr rfl; exact Or.inl rfl)) (by congr 4; simp [bI, isS]; omega) rfl
  · refine V.iload_n X d_Mo_sign_6 rfl ?_
    refine V.bipush (v := nI 47) X d_Mo_sign_7 (by decide +kernel) ?_
    refine V.cmpN_le (tgt := 42) X d_Mo_sign_9 (by decide) (by first | omega | (dsimp only; omega) | (simp only [] at *; omega)) (by first | omega | (dsimp only; omega) | (simp only [] at *; omega)) (fun h9 => ?_) (fun h9 => ?_)
    · refine V.iconst (v := nI 1) X d_Mo_sign_42 (by decide +kernel) ?_
      refine V.goto (tgt := 47) X d_Mo_sign_43 (by decide) ?_
      exact V.zret X d_Mo_sign_47 (by first | exact Or.inl rfl | exact Or.inr rfl | (unfold bI; split; exact Or.inr rfl; exact Or.inl rfl)) (by congr 4; simp [bI, isS]; omega) rfl
    · refine V.iload_n X d_Mo_sign_12 rfl ?_
      refine V.bipush (v := nI 59) X d_Mo_sign_13 (by decide +kernel) ?_
      refine V.cmpN_eq (tgt := 42) X d_Mo_sign_15 (by decide) (by first | omega | (dsimp only; omega) | (simp only [] at *; omega)) (by first | omega | (dsimp only; omega) | (simp only [] at *; omega)) (fun h15 => ?_) (fun h15 => ?_)
      · refine V.iconst (v := nI 1) X d_Mo_sign_42 (by decide +kernel) ?_
        refine V.goto (tgt := 47) X d_Mo_sign_43 (by decide) ?_
        exact V.zret X d_Mo_sign_47 (by first | exact Or.inl rfl | exact Or.inr rfl | (unfold bI; split; exact Or.inr rfl; exact Or.inl rfl)) (by congr 4; simp [bI, isS]; omega) rfl
      · refine V.iload_n X d_Mo_sign_18 rfl ?_
        refine V.bipush (v := nI 60) X d_Mo_sign_19 (by decide +kernel) ?_
        refine V.cmpN_lt (tgt := 30) X d_Mo_sign_21 (by decide) (by first | omega | (dsimp only; omega) | (simp only [] at *; omega)) (by first | omega | (dsimp only; omega) | (simp only [] at *; omega)) (fun h21 => ?_) (fun h21 => ?_)
        · refine V.iload_n X d_Mo_sign_30 rfl ?_
          refine V.bipush (v := nI 37) X d_Mo_sign_31 (by decide +kernel) ?_
          refine V.cmpN_eq (tgt := 42) X d_Mo_sign_33 (by decide) (by first | omega | (dsimp only; omega) | (simp only [] at *; omega)) (by first | omega | (dsimp only; omega) | (simp only [] at *; omega)) (fun h33 => ?_) (fun h33 => ?_)
          · refine V.iconst (v := nI 1) X d_Mo_sign_42 (by decide +kernel) ?_
            refine V.goto (tgt := 47) X d_Mo_sign_43 (by decide) ?_
            exact V.zret X d_Mo_sign_47 (by first | exact Or.inl rfl | exact Or.inr rfl | (unfold bI; split; exact Or.inr rfl; exact Or.inl rfl)) (by congr 4; simp [bI, isS]; omega) rfl
          · refine V.iload_n X d_Mo_sign_36 rfl ?_
            refine V.bipush (v := nI 64) X d_Mo_sign_37 (by decide +kernel) ?_
            refine V.cmpN_ne (tgt := 46) X d_Mo_sign_39 (by decide) (by first | omega | (dsimp only; omega) | (simp only [] at *; omega)) (by first | omega | (dsimp only; omega) | (simp only [] at *; omega)) (fun h39 => ?_) (fun h39 => ?_)
            · refine V.iconst (v := nI 0) X d_Mo_sign_46 (by decide +kernel) ?_
              exact V.zret X d_Mo_sign_47 (by first | exact Or.inl rfl | exact Or.inr rfl | (unfold bI; split; exact Or.inr rfl; exact Or.inl rfl)) (by congr 4; simp [bI, isS]; omega) rfl
            · refine V.iconst (v := nI 1) X d_Mo_sign_42 (by decide +kernel) ?_
              refine V.goto (tgt := 47) X d_Mo_sign_43 (by decide) ?_
              exact V.zret X d_Mo_sign_47 (by first | exact Or.inl rfl | exact Or.inr rfl | (unfold bI; split; exact Or.inr rfl; exact Or.inl rfl)) (by congr 4; simp [bI, isS]; omega) rfl
        · refine V.iload_n X d_Mo_sign_24 rfl ?_
          refine V.bipush (v := nI 62) X d_Mo_sign_25 (by decide +kernel) ?_
          refine V.cmpN_le (tgt := 42) X d_Mo_sign_27 (by decide) (by first | omega | (dsimp only; omega) | (simp only [] at *; omega)) (by first | omega | (dsimp only; omega) | (simp only [] at *; omega)) (fun h27 => ?_) (fun h27 => ?_)
          · refine V.iconst (v := nI 1) X d_Mo_sign_42 (by decide +kernel) ?_
            refine V.goto (tgt := 47) X d_Mo_sign_43 (by decide) ?_
            exact V.zret X d_Mo_sign_47 (by first | exact Or.inl rfl | exact Or.inr rfl | (unfold bI; split; exact Or.inr rfl; exact Or.inl rfl)) (by congr 4; simp [bI, isS]; omega) rfl
          · refine V.iload_n X d_Mo_sign_30 rfl ?_
            refine V.bipush (v := nI 37) X d_Mo_sign_31 (by decide +kernel) ?_
            refine V.cmpN_eq (tgt := 42) X d_Mo_sign_33 (by decide) (by first | omega | (dsimp only; omega) | (simp only [] at *; omega)) (by first | omega | (dsimp only; omega) | (simp only [] at *; omega)) (fun h33 => ?_) (fun h33 => ?_)
            · refine V.iconst (v := nI 1) X d_Mo_sign_42 (by decide +kernel) ?_
              refine V.goto (tgt := 47) X d_Mo_sign_43 (by decide) ?_
              exact V.zret X d_Mo_sign_47 (by first | exact Or.inl rfl | exact Or.inr rfl | (unfold bI; split; exact Or.inr rfl; exact Or.inl rfl)) (by congr 4; simp [bI, isS]; omega) rfl
            · refine V.iload_n X d_Mo_sign_36 rfl ?_
              refine V.bipush (v := nI 64) X d_Mo_sign_37 (by decide +kernel) ?_
              refine V.cmpN_ne (tgt := 46) X d_Mo_sign_39 (by decide) (by first | omega | (dsimp only; omega) | (simp only [] at *; omega)) (by first | omega | (dsimp only; omega) | (simp only [] at *; omega)) (fun h39 => ?_) (fun h39 => ?_)
              · refine V.iconst (v := nI 0) X d_Mo_sign_46 (by decide +kernel) ?_
                exact V.zret X d_Mo_sign_47 (by first | exact Or.inl rfl | exact Or.inr rfl | (unfold bI; split; exact Or.inr rfl; exact Or.inl rfl)) (by congr 4; simp [bI, isS]; omega) rfl
              · refine V.iconst (v := nI 1) X d_Mo_sign_42 (by decide +kernel) ?_
                refine V.goto (tgt := 47) X d_Mo_sign_43 (by decide) ?_
                exact V.zret X d_Mo_sign_47 (by first | exact Or.inl rfl | exact Or.inr rfl | (unfold bI; split; exact Or.inr rfl; exact Or.inl rfl)) (by congr 4; simp [bI, isS]; omega) rfl
set_option maxHeartbeats 4000000 in
theorem c_Mo_operator {l : Launch} {z : Zt} {b : Nat → Nat} {S : MS} (h : Nat) {x : Nat} (hx : x < 2 ^ 31) : XC l (Gz z) h y_Mo_operator b_Mo_operator 2 (some .boolean) [.ref (b 0), .int (nI x)] (mw z b S) (.inl (some (.int (bI (isOp x))))) (mw z b S) := by
  refine XC.ofV (by decide +kernel) rfl ?_
  intro p e s m below meth c X hnm
  refine V.lvs (lv' := [(0, .ref (b 0)), (1, .int (nI x))]) rfl ?_
  refine V.iload_n X d_Mo_operator_0 rfl ?_
  refine V.bipush (v := nI 43) X d_Mo_operator_1 (by decide +kernel) ?_
  refine V.cmpN_eq (tgt := 30) X d_Mo_operator_3 (by decide) (by first | omega | (dsimp only; omega) | (simp only [] at *; omega)) (by first | omega | (dsimp only; omega) | (simp only [] at *; omega)) (fun h3 => ?_) (fun h3 => ?_)
  · refine V.iconst (v := nI 1) X d_Mo_operator_30 (by decide +kernel) ?_
    refine V.goto (tgt := 35) X d_Mo_operator_31 (by decide) ?_
    exact V.zret X d_Mo_operator_35 (by first | exact Or.inl rfl | exact Or.inr rfl | (unfold bI; split; exact Or.inr rfl; exact Or.inl rfl)) (by congr 4; simp [bI, isOp]; omega) rfl
  · refine V.iload_n X d_Mo_operator_6 rfl ?_
    refine V.bipush (v := nI 45) X d_Mo_operator_7 (by decide +kernel) ?_
    refine V.cmpN_eq (tgt := 30) X d_Mo_operator_9 (by decide) (by first | omega | (dsimp only; omega) | (simp only [] at *; omega)) (by first | omega | (dsimp only; omega) | (simp only [] at *; omega)) (fun h9 => ?_) (fun h9 => ?_)
    · refine V.iconst (v := nI 1) X d_Mo_operator_30 (by decide +kernel) ?_
      refine V.goto (tgt := 35) X d_Mo_operator_31 (by decide) ?_
      exact V.zret X d_Mo_operator_35 (by first | exact Or.inl rfl | exact Or.inr rfl | (unfold bI; split; exact Or.inr rfl; exact Or.inl rfl)) (by congr 4; simp [bI, isOp]; omega) rfl
    · refine V.iload_n X d_Mo_operator_12 rfl ?_
      refine V.bipush (v := nI 42) X d_Mo_operator_13 (by decide +kernel) ?_
      refine V.cmpN_eq (tgt := 30) X d_Mo_operator_15 (by decide) (by first | omega | (dsimp only; omega) | (simp only [] at *; omega)) (by first | omega | (dsimp only; omega) | (simp only [] at *; omega)) (fun h15 => ?_) (fun h15 => ?_)
      · refine V.iconst (v := nI 1) X d_Mo_operator_30 (by decide +kernel) ?_
        refine V.goto (tgt := 35) X d_Mo_operator_31 (by decide) ?_
        exact V.zret X d_Mo_operator_35 (by first | exact Or.inl rfl | exact Or.inr rfl | (unfold bI; split; exact Or.inr rfl; exact Or.inl rfl)) (by congr 4; simp [bI, isOp]; omega) rfl
      · refine V.iload_n X d_Mo_operator_18 rfl ?_
        refine V.bipush (v := nI 47) X d_Mo_operator_19 (by decide +kernel) ?_
        refine V.cmpN_eq (tgt := 30) X d_Mo_operator_21 (by decide) (by first | omega | (dsimp only; omega) | (simp only [] at *; omega)) (by first | omega | (dsimp only; omega) | (simp only [] at *; omega)) (fun h21 => ?_) (fun h21 => ?_)
        · refine V.iconst (v := nI 1) X d_Mo_operator_30 (by decide +kernel) ?_
          refine V.goto (tgt := 35) X d_Mo_operator_31 (by decide) ?_
          exact V.zret X d_Mo_operator_35 (by first | exact Or.inl rfl | exact Or.inr rfl | (unfold bI; split; exact Or.inr rfl; exact Or.inl rfl)) (by congr 4; simp [bI, isOp]; omega) rfl
        · refine V.iload_n X d_Mo_operator_24 rfl ?_
          refine V.bipush (v := nI 37) X d_Mo_operator_25 (by decide +kernel) ?_
          refine V.cmpN_ne (tgt := 34) X d_Mo_operator_27 (by decide) (by first | omega | (dsimp only; omega) | (simp only [] at *; omega)) (by first | omega | (dsimp only; omega) | (simp only [] at *; omega)) (fun h27 => ?_) (fun h27 => ?_)
          · refine V.iconst (v := nI 0) X d_Mo_operator_34 (by decide +kernel) ?_
            exact V.zret X d_Mo_operator_35 (by first | exact Or.inl rfl | exact Or.inr rfl | (unfold bI; split; exact Or.inr rfl; exact Or.inl rfl)) (by congr 4; simp [bI, isOp]; omega) rfl
          · refine V.iconst (v := nI 1) X d_Mo_operator_30 (by decide +kernel) ?_
            refine V.goto (tgt := 35) X d_Mo_operator_31 (by decide) ?_
            exact V.zret X d_Mo_operator_35 (by first | exact Or.inl rfl | exact Or.inr rfl | (unfold bI; split; exact Or.inr rfl; exact Or.inl rfl)) (by congr 4; simp [bI, isOp]; omega) rfl
set_option maxHeartbeats 4000000 in
theorem c_Mo_parameterOf {l : Launch} {z : Zt} {b : Nat → Nat} {S : MS} (h : Nat) {x y : Nat} : XC l (Gz z) h y_Mo_parameterOf b_Mo_parameterOf 3 (some .int) [.ref (b 0), .int (nI x), .int (nI y)] (mw z b S) (.inl (some (.int (nI (x + 1 + y))))) (mw z b S) := by
  refine XC.ofV (by decide +kernel) rfl ?_
  intro p e s m below meth c X hnm
  refine V.lvs (lv' := [(0, .ref (b 0)), (1, .int (nI x)), (2, .int (nI y))]) rfl ?_
  refine V.iload_n X d_Mo_parameterOf_0 rfl ?_
  refine V.iconst (v := nI 1) X d_Mo_parameterOf_1 (by decide +kernel) ?_
  refine V.iadd X d_Mo_parameterOf_2 (nI_add _ _) ?_
  refine V.iload_n X d_Mo_parameterOf_3 rfl ?_
  refine V.iadd X d_Mo_parameterOf_4 (nI_add _ _) ?_
  exact V.iret X d_Mo_parameterOf_5 rfl rfl
set_option maxHeartbeats 4000000 in
theorem c_Mo_wordKind {l : Launch} {z : Zt} {b : Nat → Nat} {S : MS} (h : Nat) {w : Int64} : XC l (Gz z) h y_Mo_wordKind b_Mo_wordKind 2 (some .int) [.long w] (mw z b S) (.inl (some (.int (nI (wk w))))) (mw z b S) := by
  refine XC.ofV (by decide +kernel) rfl ?_
  intro p e s m below meth c X hnm
  refine V.lvs (lv' := [(0, .long w)]) rfl ?_
  refine V.lload_n X d_Mo_wordKind_0 rfl ?_
  refine V.ldc2 X d_Mo_wordKind_1 k_Mo_142 ?_
  refine V.lcmp X d_Mo_wordKind_4 rfl ?_
  refine V.if_ne (tgt := 10) X d_Mo_wordKind_5 (by decide) (fun h5 => ?_) (fun h5 => ?_)
  · have n5 : ¬ w = 7758194 := fun q => h5 (lg_eq0.mpr q)
    refine V.lload_n X d_Mo_wordKind_10 rfl ?_
    refine V.ldc2 X d_Mo_wordKind_11 k_Mo_144 ?_
    refine V.lcmp X d_Mo_wordKind_14 rfl ?_
    refine V.if_ne (tgt := 20) X d_Mo_wordKind_15 (by decide) (fun h15 => ?_) (fun h15 => ?_)
    · have n15 : ¬ w = 1886547811 := fun q => h15 (lg_eq0.mpr q)
      refine V.lload_n X d_Mo_wordKind_20 rfl ?_
      refine V.ldc2 X d_Mo_wordKind_21 k_Mo_146 ?_
      refine V.lcmp X d_Mo_wordKind_24 rfl ?_
      refine V.if_ne (tgt := 30) X d_Mo_wordKind_25 (by decide) (fun h25 => ?_) (fun h25 => ?_)
      · have n25 : ¬ w = 422608071022 := fun q => h25 (lg_eq0.mpr q)
        refine V.lload_n X d_Mo_wordKind_30 rfl ?_
        refine V.ldc2 X d_Mo_wordKind_31 k_Mo_148 ?_
        refine V.lcmp X d_Mo_wordKind_34 rfl ?_
        refine V.if_ne (tgt := 41) X d_Mo_wordKind_35 (by decide) (fun h35 => ?_) (fun h35 => ?_)
        · have n35 : ¬ w = 6647396 := fun q => h35 (lg_eq0.mpr q)
          refine V.lload_n X d_Mo_wordKind_41 rfl ?_
          refine V.ldc2 X d_Mo_wordKind_42 k_Mo_150 ?_
          refine V.lcmp X d_Mo_wordKind_45 rfl ?_
          refine V.if_ne (tgt := 52) X d_Mo_wordKind_46 (by decide) (fun h46 => ?_) (fun h46 => ?_)
          · have n46 : ¬ w = 26982 := fun q => h46 (lg_eq0.mpr q)
            refine V.lload_n X d_Mo_wordKind_52 rfl ?_
            refine V.ldc2 X d_Mo_wordKind_53 k_Mo_152 ?_
            refine V.lcmp X d_Mo_wordKind_56 rfl ?_
            refine V.if_ne (tgt := 63) X d_Mo_wordKind_57 (by decide) (fun h57 => ?_) (fun h57 => ?_)
            · have n57 : ¬ w = 1952998766 := fun q => h57 (lg_eq0.mpr q)
              refine V.lload_n X d_Mo_wordKind_63 rfl ?_
              refine V.ldc2 X d_Mo_wordKind_64 k_Mo_154 ?_
              refine V.lcmp X d_Mo_wordKind_67 rfl ?_
              refine V.if_ne (tgt := 74) X d_Mo_wordKind_68 (by decide) (fun h68 => ?_) (fun h68 => ?_)
              · have n68 : ¬ w = 1701606245 := fun q => h68 (lg_eq0.mpr q)
                refine V.lload_n X d_Mo_wordKind_74 rfl ?_
                refine V.ldc2 X d_Mo_wordKind_75 k_Mo_156 ?_
                refine V.lcmp X d_Mo_wordKind_78 rfl ?_
                refine V.if_ne (tgt := 85) X d_Mo_wordKind_79 (by decide) (fun h79 => ?_) (fun h79 => ?_)
                · have n79 : ¬ w = 512852847717 := fun q => h79 (lg_eq0.mpr q)
                  refine V.lload_n X d_Mo_wordKind_85 rfl ?_
                  refine V.ldc2 X d_Mo_wordKind_86 k_Mo_158 ?_
                  refine V.lcmp X d_Mo_wordKind_89 rfl ?_
                  refine V.if_ne (tgt := 96) X d_Mo_wordKind_90 (by decide) (fun h90 => ?_) (fun h90 => ?_)
                  · have n90 : ¬ w = 25711 := fun q => h90 (lg_eq0.mpr q)
                    refine V.lload_n X d_Mo_wordKind_96 rfl ?_
                    refine V.ldc2 X d_Mo_wordKind_97 k_Mo_160 ?_
                    refine V.lcmp X d_Mo_wordKind_100 rfl ?_
                    refine V.if_ne (tgt := 109) X d_Mo_wordKind_101 (by decide) (fun h101 => ?_) (fun h101 => ?_)
                    · have n101 : ¬ w = 513020621925 := fun q => h101 (lg_eq0.mpr q)
                      rw [wk, if_neg n5, if_neg n15, if_neg n25, if_neg n35, if_neg n46, if_neg n57, if_neg n68, if_neg n79, if_neg n90, if_neg n101]
                      refine V.iconst (v := nI 1) X d_Mo_wordKind_109 (by decide +kernel) ?_
                      exact V.iret X d_Mo_wordKind_110 rfl rfl
                    · rw [wk, if_neg n5, if_neg n15, if_neg n25, if_neg n35, if_neg n46, if_neg n57, if_neg n68, if_neg n79, if_neg n90, if_pos (lg_eq0.mp h101)]
                      refine V.bipush (v := nI 12) X d_Mo_wordKind_104 (by decide +kernel) ?_
                      refine V.goto (tgt := 110) X d_Mo_wordKind_106 (by decide) ?_
                      exact V.iret X d_Mo_wordKind_110 rfl rfl
                  · rw [wk, if_neg n5, if_neg n15, if_neg n25, if_neg n35, if_neg n46, if_neg n57, if_neg n68, if_neg n79, if_pos (lg_eq0.mp h90)]
                    refine V.bipush (v := nI 11) X d_Mo_wordKind_93 (by decide +kernel) ?_
                    exact V.iret X d_Mo_wordKind_95 rfl rfl
                · rw [wk, if_neg n5, if_neg n15, if_neg n25, if_neg n35, if_neg n46, if_neg n57, if_neg n68, if_pos (lg_eq0.mp h79)]
                  refine V.bipush (v := nI 10) X d_Mo_wordKind_82 (by decide +kernel) ?_
                  exact V.iret X d_Mo_wordKind_84 rfl rfl
              · rw [wk, if_neg n5, if_neg n15, if_neg n25, if_neg n35, if_neg n46, if_neg n57, if_pos (lg_eq0.mp h68)]
                refine V.bipush (v := nI 9) X d_Mo_wordKind_71 (by decide +kernel) ?_
                exact V.iret X d_Mo_wordKind_73 rfl rfl
            · rw [wk, if_neg n5, if_neg n15, if_neg n25, if_neg n35, if_neg n46, if_pos (lg_eq0.mp h57)]
              refine V.bipush (v := nI 8) X d_Mo_wordKind_60 (by decide +kernel) ?_
              exact V.iret X d_Mo_wordKind_62 rfl rfl
          · rw [wk, if_neg n5, if_neg n15, if_neg n25, if_neg n35, if_pos (lg_eq0.mp h46)]
            refine V.bipush (v := nI 7) X d_Mo_wordKind_49 (by decide +kernel) ?_
            exact V.iret X d_Mo_wordKind_51 rfl rfl
        · rw [wk, if_neg n5, if_neg n15, if_neg n25, if_pos (lg_eq0.mp h35)]
          refine V.bipush (v := nI 6) X d_Mo_wordKind_38 (by decide +kernel) ?_
          exact V.iret X d_Mo_wordKind_40 rfl rfl
      · rw [wk, if_neg n5, if_neg n15, if_pos (lg_eq0.mp h25)]
        refine V.iconst (v := nI 5) X d_Mo_wordKind_28 (by decide +kernel) ?_
        exact V.iret X d_Mo_wordKind_29 rfl rfl
    · rw [wk, if_neg n5, if_pos (lg_eq0.mp h15)]
      refine V.iconst (v := nI 4) X d_Mo_wordKind_18 (by decide +kernel) ?_
      exact V.iret X d_Mo_wordKind_19 rfl rfl
  · rw [wk, if_pos (lg_eq0.mp h5)]
    refine V.iconst (v := nI 3) X d_Mo_wordKind_8 (by decide +kernel) ?_
    exact V.iret X d_Mo_wordKind_9 rfl rfl
abbrev poF (x y : Nat) : Nat := x + 1 + y
