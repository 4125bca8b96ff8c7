/-! ===== declarations, headers, bodies: class and model ===== -/
section PN
variable {T : Tk} {m : Nat} {X : MS}
theorem PH.old {Y Y' : MS2} {C C' : Co} {a a' : Nat} {μ ν μ' ν' : Nat → Nat} (x : EXT Y C a μ ν Y' C' a' μ' ν') (h : PH C Y) {s : Nat} (hs : s < Y.2.2.2.2.2.1) (h3 : Y.2.1 s = 3) (ow : Y'.2.2.2.1 s = Y.2.2.2.1 s) (wa : Y'.2.2.2.2.1 s = Y.2.2.2.2.1 s) (cp : C'.2.2.2.2.1 (cnt (pAll Y) s) = C.2.2.2.2.1 (cnt (pAll Y) s)) (cr : C'.2.2.2.2.2.1 (cnt (pAll Y) s) = C.2.2.2.2.2.1 (cnt (pAll Y) s)) : PQ C' (cnt (pAll Y') s) s Y' ∧ Y'.2.2.2.1 s = cnt (pAll Y') s + 1 ∧ Y'.2.2.2.2.2.2.2.2.1 (Y'.2.2.2.1 s) = some (Y'.2.2.1 s) ∧ Y'.2.2.2.1 s < Y'.2.2.2.2.2.2.2.2.2.2.1 ∧ ∀ k, k < Y'.2.2.2.2.1 s → Y'.2.2.1 (s + 1 + k) = Y'.2.2.2.1 s ∧ (Y'.2.1 (s + 1 + k) = 1 ∨ Y'.2.1 (s + 1 + k) = 2) ∧ cnt (vIn Y' (Y'.2.2.2.1 s)) (s + 1 + k) = k := by
  obtain ⟨q, h1, h2, h4, h5⟩ := h s hs h3
  obtain ⟨q1, q2, q3, q4, q5, q6⟩ := q
  rw [x.cP (Nat.le_of_lt hs), ow, wa]
  have so : ∀ k, k < Y.2.2.2.2.1 s → s + 1 + k < Y.2.2.2.2.2.1 := fun k hk => by omega
  refine ⟨⟨by rw [cp, wa]; exact q1, by rw [wa]; exact q2, by rw [wa]; exact q3, ?_, ?_, ?_⟩, h1, ?_, Nat.lt_of_lt_of_le h4 x.2.1.1, fun k hk => ?_⟩
  · intro k hk
    rw [wa] at hk
    rw [(x.1.2 _ (so k hk)).2.1]
    exact q4 k hk
  · intro k
    have : co_isRef C' (cnt (pAll Y) s) k = co_isRef C (cnt (pAll Y) s) k := by unfold co_isRef; rw [cr]
    rw [this, q5 k, wa]
    by_cases hk : k < Y.2.2.2.2.1 s
    · rw [(x.1.2 _ (so k hk)).2.1]
    · simp [hk]
  · rw [wa]; exact Nat.le_trans q6 x.1.1
  · rw [x.2.1.2 _ h4, (x.1.2 s hs).2.2]; exact h2
  · have z := h5 k hk
    have e := x.1.2 _ (so k hk)
    rw [e.2.2, e.2.1, x.cV (Nat.le_of_lt (so k hk))]
    exact z
theorem JJ.ext {lim : Nat} {S S' : CS} {Y Y' : MS2} {μ ν μ' ν' bl bl' : Nat → Nat} (x : EXT Y S.2.2 S.1 μ ν Y' S'.2.2 S'.1 μ' ν') (tb : ∀ q', q' < lim → S'.2.2.2.2.2.2.1 q' = S.2.2.2.2.2.2.1 q' ∧ S'.2.2.2.2.2.2.2.1 q' = S.2.2.2.2.2.2.2.1 q') (h : JJ T m lim S Y μ ν bl) (hq : ∀ q, q < S'.2.1.2.2.2.2.2.2.2.2 → (∀ l, l ≤ S'.2.1.2.2.2.2.2.2.1 → bl' l ≠ q + 1) → q < S.2.1.2.2.2.2.2.2.2.2 ∧ (∀ l, l ≤ S.2.1.2.2.2.2.2.2.1 → bl l ≠ q + 1) ∧ S'.2.2.2.2.2.1 q = S.2.2.2.2.2.1 q ∧ Y'.2.2.2.2.2.2.2.2.2.1 (q + 1) = Y.2.2.2.2.2.2.2.2.2.1 (q + 1)) : JJ T m lim S' Y' μ' ν' bl' := by
  intro q h1 h2
  obtain ⟨k1, k2, k3, k4⟩ := hq q h1 h2
  rw [k3, k4]
  exact (h q k1 k2).ext x tb
theorem ext_dY {Y : MS2} {C : Co} {a a' km : Nat} {μ ν : Nat → Nat} {w : Int64} (ha : a ≤ a') : EXT Y C a μ ν (dY Y km w) C a' μ ν := by
  refine ⟨⟨by show _ ≤ Y.2.2.2.2.2.1 + 1; omega, fun s hs => ?_⟩, ⟨Nat.le_refl _, fun _ _ => rfl⟩, ⟨Nat.le_refl _, fun _ _ => ⟨rfl, rfl, rfl⟩⟩, ha, fun _ _ => ⟨rfl, rfl⟩⟩
  have up : ∀ {α : Type} (f : Nat → α) (z : α), va_up f Y.2.2.2.2.2.1 z s = f s := fun f z => by unfold va_up; rw [if_neg (by omega)]
  exact ⟨up _ _, up _ _, up _ _⟩
theorem dec_cases {S : CS} {Y : MS2} {μ ν σ bl wi si : Nat → Nat} {de k km : Nat} (t : TkOk T m) (hT : TR T m X) (hI : IV T m S Y μ ν σ bl) (hs : sr k km) :
    (∃ S', cp_dec T k S = (.inl (T.2.1 S.1), S') ∧ mo_declare km (BX X Y S.1 none μ ν wi si de) (BX X Y S.1 (some S.1) μ ν wi si de)) ∨
    (kd T S.1 = 25 ∧ cp_dec T k S = (.inr 0, (S.1 + 1, nm_add S.2.1 (T.2.2.1 S.1) k, S.2.2)) ∧ mo_declare km (BX X Y S.1 none μ ν wi si de) (BX X (dY Y km (T.2.2.1 S.1)) (S.1 + 1) none μ ν wi si de) ∧ NR (nm_add S.2.1 (T.2.2.1 S.1) k) (va_up σ S.2.1.2.2.2.2.2.1 Y.2.2.2.2.2.1) bl (dY Y km (T.2.2.1 S.1)) ∧ Ok m (S.1 + 1, nm_add S.2.1 (T.2.2.1 S.1) k, S.2.2) ∧ (k = 2 → S.2.1.2.2.2.2.2.2.2.2 < 6)) := by
  obtain ⟨hN, o, c, hPH, hbl, hJ⟩ := hI
  have tm := t.1
  have o1 := o.1
  have oN := o.2.1
  have hsy := hN.1
  have hkm : k = 2 ↔ km = 3 := by rcases hs with q | q | q <;> omega
  have hk2 : k ≤ 2 := by rcases hs with q | q | q <;> omega
  have hkl : km < 2147483648 := by rcases hs with q | q | q <;> omega
  have hh : ∀ s, s < Y.2.2.2.2.2.1 → Y.2.2.1 s < 2147483648 := fun s hs => by have := hN.2.2.2.2.2.2.2.2.1 s hs; have := hN.2.1.2.2; omega
  have hb : Y.2.2.2.2.2.2.2.2.2.2.2 < 2147483648 := by have := hN.2.1.1; have := hN.2.1.2.1; have := hN.2.1.2.2; omega
  have v12 : Y.2.2.2.2.2.2.1 ≤ 12 := by rw [hsy.1]; exact oN.2.1
  have p6 : Y.2.2.2.2.2.2.2.1 ≤ 6 := by rw [hsy.2.1]; exact oN.2.2.1
  have hs3 : Y.2.2.2.2.2.1 = Y.2.2.2.2.2.2.1 + Y.2.2.2.2.2.2.2.1 := by rw [hsy.2.2, hsy.1, hsy.2.1]
  by_cases hk : kd T S.1 = 25
  · have hlt := t.lt o.1 hk (by decide)
    have k1 : r_kind X S.1 = 1 := hT.eq o.1 hk
    have hw : X.2.1.2.1 S.1 = T.2.2.1 S.1 := hT.2 S.1 hlt (Or.inl hk)
    have hfull : nm_full S.2.1 k = true ↔ (km = 3 ∧ Y.2.2.2.2.2.2.2.1 = 6 ∨ ¬ km = 3 ∧ Y.2.2.2.2.2.2.1 = 12) := by
      unfold nm_full
      rw [hsy.1, hsy.2.1]
      by_cases h2 : k = 2
      · have h3 := hkm.mp h2
        rw [if_pos h2]
        simp [h3]
      · have h3 : ¬ km = 3 := fun q => h2 (hkm.mpr q)
        rw [if_neg h2]
        simp [h3]
    by_cases hbad : (nm_twice S.2.1 (T.2.2.1 S.1) || nm_full S.2.1 k) = true
    · left
      refine ⟨(S.1, S.2.1, S.2.2), ?_, dc_bad hkl (by omega) k1 v12 p6 hs3 hh hb ?_⟩
      · unfold cp_dec nm_declare
        rw [if_pos hk, if_pos hbad]
        rfl
      · rw [hw]
        rcases (Bool.or_eq_true _ _).mp hbad with q | q
        · exact Or.inr ((hN.twice oN _).mp q)
        · exact Or.inl (hfull.mp q)
    · right
      have hb2 : (nm_twice S.2.1 (T.2.2.1 S.1) || nm_full S.2.1 k) = false := eq_false_of_ne_true hbad
      have tf := (Bool.or_eq_false_iff.mp hb2).1
      have ff := (Bool.or_eq_false_iff.mp hb2).2
      have e1 : (adv (S.1, nm_add S.2.1 (T.2.2.1 S.1) k, S.2.2)) = (S.1 + 1, nm_add S.2.1 (T.2.2.1 S.1) k, S.2.2) := by
        show (tk_adv S.1, _) = _
        unfold tk_adv
        rw [if_neg (by omega)]
      have d := dc_ok (X := X) (Y := Y) (a := S.1) (d := de) (μ := μ) (ν := ν) (wi := wi) (si := si) hkl (by omega) k1 v12 p6 hs3 hh hb (fun q => by rw [hfull.mpr q] at ff; cases ff) (fun q => by rw [hw] at q; rw [(hN.twice oN _).mpr q] at tf; cases tf)
      rw [hw] at d
      refine ⟨hk, ?_, d, hN.add oN hs tf, ⟨by omega, nmOk_add oN hk2 ff, o.2.2⟩, fun h2 => ?_⟩
      · unfold cp_dec nm_declare
        rw [if_pos hk, if_neg hbad, if_pos rfl, e1]
      · have := oN.2.2.1
        unfold nm_full at ff
        rw [if_pos h2] at ff
        have := of_decide_eq_false ff
        omega
  · left
    refine ⟨S, ?_, dc_kind (by omega) (hT.lt t o.1) (hT.ne t (j := 25) o.1 (by decide) hk)⟩
    unfold cp_dec
    rw [if_neg hk]
    rfl
theorem IV.var0 {S : CS} {Y : MS2} {μ ν σ bl σ' : Nat → Nat} {k km : Nat} {w : Int64} (hI : IV T m S Y μ ν σ bl) (hk : k ≠ 2) (h3 : km ≠ 3) (hN : NR (nm_add S.2.1 w k) σ' bl (dY Y km w)) (o : Ok m (S.1 + 1, nm_add S.2.1 w k, S.2.2)) : NR (nm_add S.2.1 w k) σ' bl (dY Y km w) ∧ Ok m (S.1 + 1, nm_add S.2.1 w k, S.2.2) ∧ C2 (S.1 + 1, nm_add S.2.1 w k, S.2.2) ∧ PH S.2.2 (dY Y km w) ∧ (dY Y km w).2.2.2.2.2.2.2.2.2.2.1 = (nm_add S.2.1 w k).2.2.2.2.2.2.2.2 + 1 ∧ JJ T m S.2.1.2.2.2.2.2.2.2.2 (S.1 + 1, nm_add S.2.1 w k, S.2.2) (dY Y km w) μ ν bl ∧ (nm_add S.2.1 w k).2.2.2.2.2.2.2.2 = S.2.1.2.2.2.2.2.2.2.2 := by
  obtain ⟨hN0, o0, c, hPH, hbl, hJ⟩ := hI
  have ea : nm_add S.2.1 w k = (va_up S.2.1.1 S.2.1.2.2.2.2.2.1 w, va_up S.2.1.2.1 S.2.1.2.2.2.2.2.1 k, va_up S.2.1.2.2.1 S.2.1.2.2.2.2.2.1 S.2.1.2.2.2.2.2.2.1, va_up S.2.1.2.2.2.1 S.2.1.2.2.2.2.2.1 (S.2.1.2.2.2.2.1 S.2.1.2.2.2.2.2.2.1), va_up S.2.1.2.2.2.2.1 S.2.1.2.2.2.2.2.2.1 (S.2.1.2.2.2.2.1 S.2.1.2.2.2.2.2.2.1 + 1), S.2.1.2.2.2.2.2.1 + 1, S.2.1.2.2.2.2.2.2.1, S.2.1.2.2.2.2.2.2.2.1 + 1, S.2.1.2.2.2.2.2.2.2.2) := by unfold nm_add; rw [if_neg hk]
  have x : EXT Y S.2.2 S.1 μ ν (dY Y km w) S.2.2 (S.1 + 1) μ ν := ext_dY (by omega)
  refine ⟨hN, o, ?_, ?_, ?_, ?_, by rw [ea]⟩
  · show cz S ≤ 2 * (S.1 + 1); unfold C2 at c; omega
  · intro s hs h3s
    have hs : s < Y.2.2.2.2.2.1 + 1 := hs
    have h3s : va_up Y.2.1 Y.2.2.2.2.2.1 km s = 3 := h3s
    have hs2 : s < Y.2.2.2.2.2.1 := by
      rcases Nat.lt_or_ge s Y.2.2.2.2.2.1 with q | q
      · exact q
      · have : s = Y.2.2.2.2.2.1 := by omega
        subst this
        rw [va_same] at h3s
        exact absurd h3s h3
    have up : ∀ {α : Type} (f : Nat → α) (z : α), va_up f Y.2.2.2.2.2.1 z s = f s := fun f z => by unfold va_up; rw [if_neg (by omega)]
    rw [up] at h3s
    exact hPH.old x hs2 h3s rfl (up _ _) rfl rfl
  · rw [ea]; exact hbl.1
  · refine JJ.ext (S := S) (S' := (S.1 + 1, nm_add S.2.1 w k, S.2.2)) x (fun _ _ => ⟨rfl, rfl⟩) hJ fun q h1 h2 => ?_
    rw [ea] at h1 h2
    exact ⟨h1, h2, rfl, rfl⟩
theorem IV.var {S : CS} {Y : MS2} {μ ν σ bl σ' : Nat → Nat} {k km : Nat} {w : Int64} (hI : IV T m S Y μ ν σ bl) (hk : k ≠ 2) (h3 : km ≠ 3) (h2 : km ≠ 2) (hN : NR (nm_add S.2.1 w k) σ' bl (dY Y km w)) (o : Ok m (S.1 + 1, nm_add S.2.1 w k, S.2.2)) : IV T m (S.1 + 1, nm_add S.2.1 w k, S.2.2) (dY Y km w) μ ν σ' bl := by
  obtain ⟨b1, b2, b3, b4, b5, b6, b7⟩ := hI.var0 hk h3 hN o
  refine ⟨b1, b2, b3, b4, ⟨b5, fun s' hs' h => ?_⟩, by show JJ T m (nm_add S.2.1 w k).2.2.2.2.2.2.2.2 _ _ _ _ _; rw [b7]; exact b6⟩
  have hs' : s' < Y.2.2.2.2.2.1 + 1 := hs'
  have h : va_up Y.2.1 Y.2.2.2.2.2.1 km s' = 2 := h
  have up : ∀ {α : Type} (f : Nat → α) (z : α) (q : Nat), q < Y.2.2.2.2.2.1 → va_up f Y.2.2.2.2.2.1 z q = f q := fun f z q hq => by unfold va_up; rw [if_neg (by omega)]
  rcases Nat.lt_or_ge s' Y.2.2.2.2.2.1 with z | z
  · rw [up _ _ s' z] at h
    obtain ⟨s, k, q1, q2, q3, q4⟩ := hI.2.2.2.2.1.2 s' z h
    exact ⟨s, k, by show s < Y.2.2.2.2.2.1 + 1; omega, (up _ _ s q1).trans q2, by show k < va_up Y.2.2.2.2.1 Y.2.2.2.2.2.1 0 s; rw [up _ _ s q1]; exact q3, q4⟩
  · have : s' = Y.2.2.2.2.2.1 := by omega
    subst this
    rw [va_same] at h
    exact absurd h h2
def EI (T : Tk) (m : Nat) (bl : Nat → Nat) (L a : Nat) (_ : Nat) (S1 : CS) (Y' : MS2) (μ' ν' : Nat → Nat) : Prop := (∃ σ', IV T m S1 Y' μ' ν' σ' bl) ∧ S1.2.1.2.2.2.2.2.2.1 = L ∧ a ≤ S1.1
theorem bo_dec0 {S : CS} {Y : MS2} {μ ν σ bl wi si : Nat → Nat} {de : Nat} {K : MS → MS → Prop} (t : TkOk T m) (hT : TR T m X) (hK : ∀ Z q, r_wrong Z = some q → q < 2147483648 → K Z Z) (hI : IV T m S Y μ ν σ bl) : BO T m X S Y μ ν wi si de (cp_dec T 0 S) (dP 0 K) K (fun v S1 Y' μ' ν' => EI T m bl S.2.1.2.2.2.2.2.2.1 0 v S1 Y' μ' ν' ∧ S.1 < S1.1) := by
  have tm := t.1
  have o1 := hI.2.1.1
  rcases dec_cases (wi := wi) (si := si) (de := de) t hT hI (k := 0) (km := 0) (Or.inr (Or.inr ⟨rfl, by decide⟩)) with ⟨S', e1, e2⟩ | ⟨hk, e1, e2, e3, e4, _⟩
  · rw [e1]
    exact bo_bad hI.2.1.1 ⟨_, e2, hK _ S.1 rfl (by omega)⟩
  · rw [e1]
    have ea : (nm_add S.2.1 (T.2.2.1 S.1) 0).2.2.2.2.2.2.1 = S.2.1.2.2.2.2.2.2.1 := by unfold nm_add; rw [if_neg (by decide)]
    exact ⟨dY Y 0 (T.2.2.1 S.1), μ, ν, wi, si, de, ⟨⟨⟨_, hI.var (by decide) (by decide) (by decide) e3 e4⟩, ea, Nat.zero_le _⟩, by show S.1 < S.1 + 1; omega⟩, fun X' hX => ⟨_, e2, hX⟩⟩
theorem iv_adv {S : CS} {Y : MS2} {μ ν σ bl : Nat → Nat} {q : Nat} (t : TkOk T m) (hI : IV T m S Y μ ν σ bl) (hk : kd T S.1 = q) (hq : q < 27) : IV T m (adv S) Y μ ν σ bl := by
  obtain ⟨hN, o, c, hPH, hbl, hJ⟩ := hI
  have ga := gs_adv t o hk hq
  exact ⟨hN, ga.2.1, ga.c2 c, hPH, hbl, JJ.ext (S := S) (S' := adv S) ⟨⟨Nat.le_refl _, fun _ _ => ⟨rfl, rfl, rfl⟩⟩, ⟨Nat.le_refl _, fun _ _ => rfl⟩, ⟨Nat.le_refl _, fun _ _ => ⟨rfl, rfl, rfl⟩⟩, ga.1, fun _ _ => ⟨rfl, rfl⟩⟩ (fun _ _ => ⟨rfl, rfl⟩) hJ fun q h1 h2 => ⟨h1, h2, rfl, rfl⟩⟩
theorem bo_vrep (t : TkOk T m) (hT : TR T m X) {bl : Nat → Nat} {L a : Nat} : ∀ k S Y μ ν σ wi si de, m ≤ S.1 + k → a ≤ S.1 → IV T m S Y μ ν σ bl → S.2.1.2.2.2.2.2.2.1 = L → BO T m X S Y μ ν wi si de (bd (cp_rep T 12 (cp_dec T 0) k) (fun _ => cp_expect T 11) S) vL rP (EI T m bl L a) := by
  have tm := t.1
  have fin : ∀ (S : CS) Y μ ν σ wi si de, a ≤ S.1 → IV T m S Y μ ν σ bl → S.2.1.2.2.2.2.2.2.1 = L → ¬ kd T S.1 = 12 → BO T m X S Y μ ν wi si de (cp_expect T 11 S) vL rP (EI T m bl L a) := by
    intro S Y μ ν σ wi si de ha hI hL h12
    have o := hI.2.1
    have o1 := o.1
    have n44 : mo_take 44 (BX X Y S.1 none μ ν wi si de) false (BX X Y S.1 none μ ν wi si de) := mo_take_n (X := BX X Y S.1 none μ ν wi si de) rfl (show S.1 < 155 by omega) (hT.ne t (j := 12) o.1 (by decide) h12) (hT.lt t o.1) (by decide)
    unfold cp_expect
    by_cases h11 : kd T S.1 = 11
    · rw [if_pos h11]
      have e1 := adv_1 t o h11 (by decide)
      refine ⟨Y, μ, ν, wi, si, de, ⟨⟨σ, iv_adv t hI h11 (by decide)⟩, hL, by rw [e1]; omega⟩, fun X' hX => ?_⟩
      rw [e1] at hX
      exact vL_end n44 (mo_need_y (X := BX X Y S.1 none μ ν wi si de) rfl (show S.1 < 155 by omega) (hT.eq (j := 11) o.1 h11) (by decide)) hX
    · rw [if_neg h11]
      exact bo_bad o.1 (vL_end n44 (mo_need_n (X := BX X Y S.1 none μ ν wi si de) rfl (show S.1 < 155 by omega) (hT.ne t (j := 11) o.1 (by decide) h11) (hT.lt t o.1) (by decide)) (rP_w (X := BX X Y S.1 (some S.1) μ ν wi si de) rfl (by omega)))
  intro k
  induction k with
  | zero =>
    intro S Y μ ν σ wi si de hm ha hI hL
    rw [bd_rep_0]
    have o1 := hI.2.1.1
    have hS : S.1 = m := by omega
    exact fin S Y μ ν σ wi si de ha hI hL (by rw [hS]; rcases t.2.2 with q | q <;> omega)
  | succ k ih =>
    intro S Y μ ν σ wi si de hm ha hI hL
    have o := hI.2.1
    have o1 := o.1
    by_cases h12 : kd T S.1 = 12
    · rw [bd_rep_t h12]
      have e1 := adv_1 t o h12 (by decide)
      have hI2 := iv_adv t hI h12 (by decide)
      refine BO.pre (P' := dP 0 vL) (S' := adv S) (Y0 := Y) (μ0 := μ) (ν0 := ν) (wi0 := wi) (si0 := si) (d0 := de) (BO.bd (bo_dec0 (K := vL) t hT (fun Z q h1 h2 => vL_w h1 h2) hI2) fun v S1 Y' μ' ν' wi' si' d' _ hE => ?_) (fun X' hX => ?_)
      · obtain ⟨⟨⟨σ', hI'⟩, hL', _⟩, hlt⟩ := hE
        exact ih S1 Y' μ' ν' σ' wi' si' d' (by omega) (by omega) hI' (hL'.trans hL)
      · rw [e1] at hX
        exact vL_comma (mo_take_y (X := BX X Y S.1 none μ ν wi si de) rfl (show S.1 < 155 by omega) (hT.eq (j := 12) o.1 h12) (by decide)) hX
    · rw [bd_rep_f h12]
      exact fin S Y μ ν σ wi si de ha hI hL h12
theorem bo_vars (t : TkOk T m) (hT : TR T m X) {S : CS} {Y : MS2} {μ ν σ bl wi si : Nat → Nat} {de : Nat} (hI : IV T m S Y μ ν σ bl) : BO T m X S Y μ ν wi si de (cp_vars T S) (dP 0 vL) rP (EI T m bl S.2.1.2.2.2.2.2.2.1 S.1) := by
  have tm := t.1
  refine BO.bd (bo_dec0 (K := vL) t hT (fun Z q h1 h2 => vL_w h1 h2) hI) fun v S1 Y' μ' ν' wi' si' d' _ hE => ?_
  obtain ⟨⟨⟨σ', hI'⟩, hL', _⟩, hlt⟩ := hE
  exact bo_vrep t hT 150 S1 Y' μ' ν' σ' wi' si' d' (by omega) (by omega) hI' hL'
/-! a block's body -/
def bY (Y : MS2) (a : Nat) : MS2 := (Y.1, Y.2.1, Y.2.2.1, Y.2.2.2.1, Y.2.2.2.2.1, Y.2.2.2.2.2.1, Y.2.2.2.2.2.2.1, Y.2.2.2.2.2.2.2.1, Y.2.2.2.2.2.2.2.2.1, va_up Y.2.2.2.2.2.2.2.2.2.1 Y.2.2.2.2.2.2.2.2.2.2.2 a, Y.2.2.2.2.2.2.2.2.2.2.1, Y.2.2.2.2.2.2.2.2.2.2.2)
def EB (T : Tk) (m : Nat) (bl : Nat → Nat) (L a : Nat) (v : Nat) (S1 : CS) (Y' : MS2) (μ' ν' : Nat → Nat) : Prop := (∃ σ', IV T m S1 Y' μ' ν' σ' bl) ∧ S1.2.1.2.2.2.2.2.2.1 = L ∧ a ≤ S1.1 ∧ BI T m S1.2.1.2.2.2.2.2.2.2.2 Y' S1.2.2 S1.1 μ' ν' (bl L) v (Y'.2.2.2.2.2.2.2.2.2.1 (bl L))
theorem bo_body (t : TkOk T m) (hT : TR T m X) {S : CS} {Y : MS2} {μ ν σ bl wi si : Nat → Nat} {de : Nat} (hI : IV T m S Y μ ν σ bl) (h1 : ¬ kd T S.1 = 1) : BO T m X S Y μ ν wi si de (cp_body T S) rP rK (EB T m bl S.2.1.2.2.2.2.2.2.1 S.1) := by
  have tm := t.1
  obtain ⟨hN, o, c, hPH, hbl, hJ⟩ := hI
  have o1 := o.1
  have tk4 : mo_take 4 (BX X Y S.1 none μ ν wi si de) false (BX X Y S.1 none μ ν wi si de) := mo_take_n (X := BX X Y S.1 none μ ν wi si de) rfl (show S.1 < 155 by omega) (hT.ne t (j := 1) o.1 (by decide) h1) (hT.lt t o.1) (by decide)
  have hb8 : Y.2.2.2.2.2.2.2.2.2.2.2 < 8 := by have := hN.2.1; omega
  have hr8 : ∀ b, Y.2.2.2.2.2.2.2.2.1 Y.2.2.2.2.2.2.2.2.2.2.2 = some b → b < 2147483648 := by
    intro b hb
    rw [hN.2.1.1] at hb
    rcases hl : S.2.1.2.2.2.2.2.2.1 with _ | l
    · rw [hl, hN.2.2.1.1, hN.2.2.1.2.1] at hb; cases hb
    · rw [hl] at hb
      have z := hN.2.2.1.2.2 l (by omega)
      rw [z.2] at hb
      cases hb
      have := hN.2.2.1.le (show l ≤ S.2.1.2.2.2.2.2.2.1 by omega)
      have := hN.2.1
      omega
  unfold cp_body
  by_cases h2 : kd T S.1 = 2
  · rw [bd_ok (v := 0) (S1 := adv S) (by unfold cp_expect; rw [if_pos h2])]
    have e1 := adv_1 t o h2 (by decide)
    have ga := gs_adv t o h2 (by decide)
    have hlt := t.lt o.1 h2 (by decide)
    have hST : ST T m S.2.1 σ bl (BX X (bY Y (S.1 + 1)) (S.1 + 1) none μ ν wi si 0) := ⟨t, hT, hN⟩
    have r := to_stmts (μ := μ) (ν := ν) (wi := wi) (si := si) (S := adv S) hST ga.2.1 (ga.c2 c) rfl (show PA S.2.2 S.2.1 σ Y from hPH.pa hN)
    have n5 : mo_need 5 (BX X Y S.1 none μ ν wi si de) (BX X Y (S.1 + 1) none μ ν wi si de) := mo_need_y (X := BX X Y S.1 none μ ν wi si de) rfl (show S.1 < 155 by omega) (hT.eq (j := 2) o.1 h2) (by decide)
    have go : ∀ X9 X', sH (BX X (bY Y (S.1 + 1)) (S.1 + 1) none μ ν wi si 0) X9 → rK X9 X' → rP (BX X Y S.1 none μ ν wi si de) X' := fun X9 X' h9 hK => rP_stm (X6 := BX X Y (S.1 + 1) none μ ν wi si de) rfl tk4 n5 rfl ⟨hb8, h9⟩ hK
    rcases hR : cp_stmts T (cp_stm T 8) (adv S) with ⟨q | v, S1⟩
    · rw [bd_no hR]
      rw [hR] at r
      obtain ⟨q', a, μ', ν', wi', si', d', y1, y2, y3⟩ := r
      rw [e1] at y3
      obtain ⟨Y', hY'⟩ := rK_w (X := X) (Y := bY Y (S.1 + 1)) (a := a) (d := d') (μ := μ') (ν := ν') (wi := wi') (si := si') (t := q') (by omega) hb8 hr8
      exact ⟨q', Y', a, μ', ν', wi', si', d', y1, y2, go _ _ y3 hY'⟩
    · rw [bd_ok hR]
      rw [hR] at r
      obtain ⟨μ', ν', wi', si', y1, y2, y3, y4⟩ := r
      rw [e1] at y1 y2 y3 y4
      have g := gs_stmts t (gs_stm t 8) (adv S) S1 v ga.2.1 (ga.c2 c) trivial hR
      have gS := ga.tr g
      have g1 := g.1
      rw [e1] at g1
      have cS := gS.2.2.2.1
      have z1 : cz S1 < 300 := by
        have := g.2.1.1
        have hS1 : S.1 + 2 ≤ S1.1 := by
          obtain ⟨w5, S5, i1, i2⟩ := bd_inv hR
          obtain ⟨w6, S6, i3, i4⟩ := bd_inv i2
          have k5 := gs_stm t 8 (adv S) S5 w5 ga.2.1 (ga.c2 c) trivial i1
          have k6 := gs_rep t (by decide) (gs_stm t 8) 150 S5 S6 w6 k5.2.1 (k5.c2 (ga.c2 c)) trivial i3
          have k7 := ge_expect t (by decide) k6.2.1 i4
          have := k5.1; have := k6.1; have := k7.2.1
          omega
        have hle : cz S1 + 2 * (S.1 + 1) + 2 ≤ cz S + 2 * S1.1 := by
          obtain ⟨w5, S5, i1, i2⟩ := bd_inv hR
          obtain ⟨w6, S6, i3, i4⟩ := bd_inv i2
          have k5 := gs_stm t 8 (adv S) S5 w5 ga.2.1 (ga.c2 c) trivial i1
          have k6 := gs_rep t (by decide) (gs_stm t 8) 150 S5 S6 w6 k5.2.1 (k5.c2 (ga.c2 c)) trivial i3
          have k7 := ge_expect t (by decide) k6.2.1 i4
          have a5 := k5.2.2.2.1; have a6 := k6.2.2.2.1; have a7 := k7.2.1
          have a8 : cz S1 = cz S6 := by rw [k7.2.2.1]; rfl
          have a9 : cz (adv S) = cz S := rfl
          omega
        unfold C2 at c
        omega
      have z2 := cz_add (x := 19) (f := 0) (t := 0) z1
      have pfa : PF S (cadd S1 19 0 0) := gS.2.2.2.2.add z1
      have oF : Ok m (cadd S1 19 0 0) := ok_add g.2.1 (by decide)
      have hle : cz S1 + 1 ≤ 2 * S1.1 := by
        obtain ⟨w5, S5, i1, i2⟩ := bd_inv hR
        obtain ⟨w6, S6, i3, i4⟩ := bd_inv i2
        have k5 := gs_stm t 8 (adv S) S5 w5 ga.2.1 (ga.c2 c) trivial i1
        have k6 := gs_rep t (by decide) (gs_stm t 8) 150 S5 S6 w6 k5.2.1 (k5.c2 (ga.c2 c)) trivial i3
        have k7 := ge_expect t (by decide) k6.2.1 i4
        have a5 := k5.2.2.2.1; have a6 := k6.2.2.2.1; have a7 := k7.2.1
        have a8 : cz S1 = cz S6 := by rw [k7.2.2.1]; rfl
        have a9 : cz (adv S) = cz S := rfl
        unfold C2 at c
        omega
      have hmu : ∀ q, q < S.1 → μ' q = μ q ∧ ν' q = ν q := fun q hq => ⟨y1.1 q (by omega), y2 q (by omega)⟩
      have szE : (cadd S1 19 0 0).2.2.2.2.2.2.2.2.1 = cz S1 + 1 := z2
      have x : EXT Y S.2.2 S.1 μ ν (bY Y (S.1 + 1)) (cadd S1 19 0 0).2.2 (cadd S1 19 0 0).1 μ' ν' := ⟨⟨Nat.le_refl _, fun _ _ => ⟨rfl, rfl, rfl⟩⟩, ⟨Nat.le_refl _, fun _ _ => rfl⟩, ⟨pfa.1, pfa.2.1⟩, by show S.1 ≤ S1.1; omega, hmu⟩
      have hnm : (cadd S1 19 0 0).2.1 = S.2.1 := gS.2.2.1
      have lev : (cadd S1 19 0 0).2.1.2.2.2.2.2.2.1 = S.2.1.2.2.2.2.2.2.1 := by rw [hnm]
      have addE : ∀ i, i < cz S1 → (cadd S1 19 0 0).2.2.1 i = S1.2.2.1 i ∧ (cadd S1 19 0 0).2.2.2.1 i = S1.2.2.2.1 i ∧ (cadd S1 19 0 0).2.2.2.2.1 i = S1.2.2.2.2.1 i := (PF.rf.add (x := 19) (f := 0) (t := 0) z1).2.1
      have add19 : (cadd S1 19 0 0).2.2.1 (cz S1) = 19 := by
        show (co_add S1.2.2 19 0 0).1 (cz S1) = 19
        unfold co_add
        rw [if_neg (show ¬ 300 ≤ S1.2.2.2.2.2.2.2.2.1 from Nat.not_le.mpr z1)]
        exact va_same _ _ _
      refine ⟨bY Y (S.1 + 1), μ', ν', wi', si', 0, ⟨⟨σ, ?_, oF, ?_, ?_, ?_, ?_⟩, lev, (by show S.1 ≤ S1.1; omega), ?_⟩, fun X' hX => go _ _ y4 hX⟩
      · rw [hnm]; exact hN
      · unfold C2; rw [z2]; show cz S1 + 1 ≤ 2 * S1.1; exact hle
      · intro s hs h3
        have hs : s < Y.2.2.2.2.2.1 := hs
        have h3 : Y.2.1 s = 3 := h3
        exact hPH.old x hs h3 rfl rfl (by rw [pfa.2.2.2.1]) (by rw [pfa.2.2.2.2])
      · rw [hnm]; exact hbl
      · rw [hnm]
        refine JJ.ext (S := S) (S' := cadd S1 19 0 0) x (fun q' _ => ⟨by rw [pfa.2.2.2.1], by rw [pfa.2.2.2.2]⟩) hJ fun q h1 h2 => ?_
        rw [hnm] at h1 h2
        refine ⟨h1, h2, by rw [pfa.2.2.1], ?_⟩
        have := h2 _ (Nat.le_refl _)
        show va_up Y.2.2.2.2.2.2.2.2.2.1 Y.2.2.2.2.2.2.2.2.2.2.2 (S.1 + 1) (q + 1) = _
        unfold va_up
        rw [if_neg (by rw [hN.2.1.1]; omega)]
      · have eb : (bY Y (S.1 + 1)).2.2.2.2.2.2.2.2.2.1 (bl S.2.1.2.2.2.2.2.2.1) = S.1 + 1 := by
          show va_up Y.2.2.2.2.2.2.2.2.2.1 Y.2.2.2.2.2.2.2.2.2.2.2 (S.1 + 1) _ = _
          rw [hN.2.1.1]
          exact va_same _ _ _
        rw [eb]
        have nmA : (adv S).2.1 = S.2.1 := rfl
        refine ⟨adv S, S1, σ, bl, v, e1, rfl, Nat.le_refl _, rfl, hN.2.1.2.1, ga.2.1, ga.c2 c, hN.2.2.1, hN.2.2.2.1, hR, ?_, ?_, add19, ?_, ?_, ⟨by rw [hnm]; exact Nat.le_refl _, fun i hi h2 => ?_⟩, fun q' _ => ⟨by rw [pfa.2.2.2.1]; rfl, by rw [pfa.2.2.2.2]; rfl⟩⟩
        · intro i _ h
          exact addE i h
        · rw [szE]; omega
        · intro q h1 h2 h3
          exact y1.2 q (by rw [e1] at h1; exact h1) h2 h3
        · intro νf hf
          rw [e1] at hf
          exact y3 νf hf
        · have h2 : S.2.1.2.1 i = 2 := h2
          have nk := hN.2.2.2.1 i hi
          have h3 : Y.2.1 (σ i) = 3 := by rcases nk.2.2.2.1 with z | z | z; exact z.2; omega; omega
          have := cnt_lt (p := pAll Y) nk.1 (decide_eq_true h3)
          rw [hN.2.2.2.2.2.2.2.2.2] at this
          show S.2.1.2.2.2.1 i < S.2.1.2.2.2.2.2.2.2.2
          rw [nk.2.2.2.2.1 h2]
          exact this
  · rw [bd_no (q := T.2.1 S.1) (S1 := S) (by unfold cp_expect; rw [if_neg h2]; rfl)]
    obtain ⟨Y', hY'⟩ := rK_w (X := X) (Y := Y) (a := S.1) (d := de) (μ := μ) (ν := ν) (wi := wi) (si := si) (t := S.1) (by omega) hb8 hr8
    exact ⟨S.1, Y', S.1, μ, ν, wi, si, de, o.1, rfl, rP_nob (X6 := BX X Y S.1 (some S.1) μ ν wi si de) (t := S.1) rfl tk4 (mo_need_n (X := BX X Y S.1 none μ ν wi si de) rfl (show S.1 < 155 by omega) (hT.ne t (j := 2) o.1 (by decide) h2) (hT.lt t o.1) (by decide)) rfl (by omega) hY'⟩
end PN
