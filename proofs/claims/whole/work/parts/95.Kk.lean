/-! ===== the constants, from what the start gives ===== -/
def sxs : List Nat := [115, 121, 124, 127, 130, 133, 136, 139, 142, 145, 148, 151, 154, 157, 160, 163, 166, 169, 172, 175, 178, 181, 184, 187, 190, 193, 193, 193, 193]
abbrev FL : List Cond := flatC (Jvm.Cond.and given_1 narrow_1)
abbrev tS (i : Nat) : Term := .static R_Kd (kdNames.getD i "") L_Kd
abbrev tT (i : Nat) : Term := .string R_Kd (sxs.getD i 0)
abbrev tV (i : Nat) : Term := .field (tT i) "java/lang/String" "value" "[B"
abbrev tM : Term := .static "PascalMachine$1" "$SwitchMap$PascalMachine$Kind" "[I"
abbrev tN : Term := .static "PascalMachine$Tokens" "KINDS" "[LPascalMachine$Kind;"
theorem fam {f : Nat → Cond} {n : Nat} {B : List Cond} (h : (List.range n).all (fun i => decide (f i ∈ B)) = true) : ∀ i, i < n → f i ∈ B := fun i hi => of_decide_eq_true (List.all_eq_true.mp h i (List.mem_range.mpr hi))
theorem f_1 : ∀ i, i < 29 → Cond.laysStatic R_Kd (kdNames.getD i "") L_Kd ∈ tables_1 := fam (by decide +kernel)
theorem f_2 : ∀ i, i < 29 → Cond.exactly (tS i) R_Kd ∈ FL := fam (by decide +kernel)
theorem f_3 : ∀ i, i < 29 → Cond.eq (.field (tS i) "java/lang/Enum" "ordinal" "I") (.int (nI i)) ∈ FL := fam (by decide +kernel)
theorem f_4 : ∀ i, i < 29 → Cond.eq (.field (tS i) R_Kd "spelling" "Ljava/lang/String;") (tT i) ∈ FL := fam (by decide +kernel)
theorem f_5 : ∀ i, i < 29 → Cond.exactly (tT i) "java/lang/String" ∈ FL := fam (by decide +kernel)
theorem f_6 : ∀ i, i < 29 → Cond.eq (.field (tT i) "java/lang/String" "coder" "B") (.int (nI 0)) ∈ FL := fam (by decide +kernel)
theorem f_7 : ∀ i, i < 29 → Cond.arrayOf (tV i) .byte ∈ FL := fam (by decide +kernel)
theorem f_8 : ∀ i, i < 29 → Cond.eq (.length (tV i)) (.int (nI (spl i).length)) ∈ FL := fam (by decide +kernel)
theorem f_9 : ∀ i, i < 29 → ∀ j, j < (spl i).length → Cond.eq (.elem (tV i) (.int (Int32.ofNat j))) (.int (nI ((spl i).getD j 0))) ∈ FL := by
  have h : (List.range 29).all (fun i => (List.range (spl i).length).all (fun j => decide (Cond.eq (.elem (tV i) (.int (Int32.ofNat j))) (.int (nI ((spl i).getD j 0))) ∈ FL))) = true := by decide +kernel
  intro i hi j hj
  exact of_decide_eq_true (List.all_eq_true.mp (List.all_eq_true.mp h i (List.mem_range.mpr hi)) j (List.mem_range.mpr hj))
theorem f_10 : ∀ i, i < 29 → Cond.eq (.elem tM (.int (Int32.ofNat i))) (.int (nI (swm i))) ∈ FL := fam (by decide +kernel)
theorem f_11 : ∀ i, i < 29 → Cond.eq (.elem tN (.int (Int32.ofNat i))) (tS i) ∈ FL := fam (by decide +kernel)
section KOF
variable {args : Array Value} {s : State} {A : Nat → Prop}
theorem OFof (hA : ∀ a : Nat, a < s.heap.size → ¬ A a) {t : Term} {a : Nat} {o n d : String} {v : Value} (ht : t.eval args s none [] s = some (.ref a)) (hv : (Term.field t o n d).eval args s none [] s = some v) : va_OF o n d v a A s s.heap := by
  cases hfo : s.fieldFound? o n d with
  | none =>
    rw [va_fe ht] at hv
    simp [State.fieldOf?, State.fieldNamed?, hfo] at hv
  | some x =>
    obtain ⟨cf, k, fi, f⟩ := x
    obtain ⟨g1, cell, g2, g3, -, -, g6⟩ := Term.field_spec hfo ht hv
    exact ⟨cf, k, fi, f, cell, hfo, g1, g2, g3, g6, hA _ (Array.getElem?_eq_some_iff.mp g2).1⟩
theorem Oof (hA : ∀ a : Nat, a < s.heap.size → ¬ A a) {t : Term} {E : String} (h : (Cond.exactly t E).before args s = true) : ∃ a : Nat, t.eval args s none [] s = some (.ref a) ∧ va_O E a A s s.heap := by
  obtain ⟨a, c, cell, k, q1, q2, q3, q4, q5, q6, -⟩ := Cond.exactly_spec h
  exact ⟨a, q1, cell, q3, q5, by rw [q6]; exact q2, hA a (Array.getElem?_eq_some_iff.mp q3).1⟩
theorem Ksof (hA : ∀ a : Nat, a < s.heap.size → ¬ A a) {C n d : String} (hl : (Cond.laysStatic C n d).before args s = true) (hr : (Cond.isRef (.static C n d)).before args s = true) : Ks C n d A s s.heap := by
  obtain ⟨c, k, i, f, a, cell, h1, h2, h3, h4, h5, h6, h7, h8, h9⟩ := Cond.laysStatic_spec hl
  cases hv : (Term.static C n d).eval args s none [] s with
  | none => simp [Cond.before, Cond.holds, Cond.value, hv] at hr
  | some w =>
    obtain ⟨g1, a', cell', g2, g3, -, g4⟩ := Term.static_spec h2 hv
    cases h4.symm.trans g2
    cases h5.symm.trans g3
    refine ⟨c, k, i, f, a, cell, w, h1, h2, h3, h4, h5, h6, h7, h8, h9, g4, ?_, hA a (Array.getElem?_eq_some_iff.mp h5).1⟩
    simp only [Cond.before, Cond.holds, Cond.value, hv] at hr
    cases w <;> simp_all [Value.isRef]
theorem KKof (hA : ∀ a : Nat, a < s.heap.size → ¬ A a) (hts : ∀ w ∈ tables_1, w.before args s = true) (hfl : ∀ w ∈ FL, w.before args s = true) : ∃ q : Kt, KK A q s s.heap := by
  have h0 : ∀ i : Nat, ∃ t : Nat × Nat × Nat, i < 29 → ((tS i).eval args s none [] s = some (.ref t.1) ∧ va_O R_Kd t.1 A s s.heap) ∧ ((tT i).eval args s none [] s = some (.ref t.2.1) ∧ va_O "java/lang/String" t.2.1 A s s.heap) ∧ ((tV i).eval args s none [] s = some (.ref t.2.2) ∧ va_T .byte t.2.2 (spl i).length (fun j => .int (nI ((spl i).getD j 0))) A s s.heap) := by
    intro i
    by_cases hi : i < 29
    · obtain ⟨a, a1, a2⟩ := Oof hA (hfl _ (f_2 i hi))
      obtain ⟨b, b1, b2⟩ := Oof hA (hfl _ (f_5 i hi))
      have hl5 : ∀ j, j < 29 → (spl j).length < 2 ^ 31 := by decide +kernel
      obtain ⟨c, c1, c2⟩ := va_Tof (tm := tV i) (ty := .byte) (N := (spl i).length) (f := fun j => .int (nI ((spl i).getD j 0))) (hl5 i hi) (hfl _ (f_7 i hi)) (va_eqt (hfl _ (f_8 i hi))) (fun j hj => va_eqt (hfl _ (f_9 i hi j hj))) hA
      exact ⟨(a, b, c), fun _ => ⟨⟨a1, a2⟩, ⟨b1, b2⟩, c1, c2⟩⟩
    · exact ⟨(0, 0, 0), fun h => absurd h hi⟩
  obtain ⟨ad, had⟩ := Classical.axiomOfChoice h0
  obtain ⟨tm, m1, m2⟩ := va_Tof (args := args) (s := s) (A := A) (tm := tM) (ty := .int) (N := 29) (f := fun j => .int (nI (swm j))) (by decide) (hfl _ (by decide +kernel)) (va_eqt (z := nI 29) (hfl _ (by decide +kernel))) (fun j hj => va_eqt (hfl _ (f_10 j hj))) hA
  obtain ⟨tn, n1, n2⟩ := va_Tof (args := args) (s := s) (A := A) (tm := tN) (ty := .object R_Kd) (N := 29) (f := fun j => .ref (ad j).1) (by decide) (hfl _ (by decide +kernel)) (va_eqt (z := nI 29) (hfl _ (by decide +kernel))) (fun j hj => Cond.eq_refs (hfl _ (f_11 j hj)) (had j hj).1.1 rfl) hA
  refine ⟨(fun i => (ad i).1, fun i => (ad i).2.1, fun i => (ad i).2.2, tm, tn), fun i hi => ?_, ?_, m2, ?_, n2, ?_, ?_, ?_, ?_, ?_⟩
  · obtain ⟨⟨a1, a2⟩, ⟨b1, b2⟩, c1, c2⟩ := had i hi
    exact ⟨va_Zref (hts _ (f_1 i hi)) (hts (.initialized R_Kd) (by decide +kernel)) a1 hA, a2, OFof hA a1 (va_eqt (hfl _ (f_3 i hi))), OFof hA a1 (Cond.eq_refs (hfl _ (f_4 i hi)) b1 rfl), b2, OFof hA b1 (va_eqt (hfl _ (f_6 i hi))), OFof hA b1 c1, c2⟩
  · exact va_Zref (hts _ (by decide +kernel)) (hts (.initialized "PascalMachine$1") (by decide +kernel)) m1 hA
  · exact va_Zref (hts _ (by decide +kernel)) (hts (.initialized "PascalMachine$Tokens") (by decide +kernel)) n1 hA
  · exact va_Zof (hts _ (by decide +kernel)) (hts (.initialized "java/lang/String") (by decide +kernel)) (va_eqi (hfl _ (by decide +kernel))) hA
  · exact va_Zqof (hts _ (by decide +kernel)) (hts (.initialized "jdk/internal/util/Preconditions") (by decide +kernel)) (hfl _ (by decide +kernel)) hA
  · exact Ksof hA (hts _ (by decide +kernel)) (hfl _ (by decide +kernel))
  · exact Ksof hA (hts _ (by decide +kernel)) (hfl _ (by decide +kernel))
  · have hx : xWords.all (fun w => decide (w ∈ tables_1)) = true := by decide +kernel
    intro w hw
    have h1 := hts w (of_decide_eq_true (List.all_eq_true.mp hx w hw))
    simp only [xWords, List.mem_cons, List.not_mem_nil, or_false] at hw
    rcases hw with rfl | rfl | rfl | rfl | rfl | rfl | rfl | rfl <;> exact va_tabs rfl rfl h1
end KOF
