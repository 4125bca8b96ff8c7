/-! ===== blocks within blocks, the program: class and model ===== -/
theorem cnt_zero {p : Nat → Bool} {n : Nat} (h : ∀ k, k < n → p k = false) : cnt p n = 0 := by
  induction n with
  | zero => rfl
  | succ n ih => unfold cnt; rw [ih (fun k hk => h k (by omega)), h n (by omega)]; rfl
section PQs
variable {T : Tk} {m : Nat} {X : MS}
theorem depth_ok {N : Nm} {σ bl : Nat → Nat} (hN : NR N σ bl X.2.2.1) : mo_blockDepth X (N.2.2.2.2.2.2.1 + 1) X := by
  obtain ⟨_, ⟨hblk, hbb, hb7⟩, hB, _⟩ := hN
  have main : ∀ l c, l ≤ N.2.2.2.2.2.2.1 → ∃ n, mo_blockDepth_go n 0 c (some (bl l)) X (c + l + 1) X := by
    intro l
    induction l with
    | zero =>
      intro c hl
      refine ⟨2, ?_⟩
      have := hB.le hl
      rw [mo_blockDepth_go]
      refine Or.inr ⟨bl 0, rfl, by omega, by omega, ?_⟩
      have e : r_around X (bl 0) = none := by rw [hB.1]; exact hB.2.1
      rw [e, mo_blockDepth_go]
      exact Or.inl ⟨rfl, rfl, rfl⟩
    | succ l ih =>
      intro c hl
      obtain ⟨n, hn⟩ := ih (c + 1) (by omega)
      refine ⟨n + 1, ?_⟩
      have := hB.le hl
      rw [mo_blockDepth_go]
      refine Or.inr ⟨bl (l + 1), rfl, by omega, by omega, ?_⟩
      have e : r_around X (bl (l + 1)) = some (bl l) := (hB.2.2 l (by omega)).2
      rw [e, show c + (l + 1) + 1 = c + 1 + l + 1 by omega]
      exact hn
  obtain ⟨n, hn⟩ := main N.2.2.2.2.2.2.1 0 (Nat.le_refl _)
  refine ⟨n, ?_⟩
  have e : r_block X = bl N.2.2.2.2.2.2.1 := hblk
  rw [e, show N.2.2.2.2.2.2.1 + 1 = 0 + N.2.2.2.2.2.2.1 + 1 by omega]
  exact hn
theorem NR.blc {N : Nm} {σ bl bl' : Nat → Nat} {Y : MS2} (o : NmOk N) (h : NR N σ bl Y) (e : ∀ l, l ≤ N.2.2.2.2.2.2.1 → bl' l = bl l) : NR N σ bl' Y := by
  obtain ⟨h1, ⟨hblk, hbb, hb7⟩, hB, hK, hmono, hcomp, huni, hslots, hhome, hcp⟩ := h
  obtain ⟨o1, o2, o3, o4, o5, o6, o7, o8, o9⟩ := o
  refine ⟨h1, ⟨by rw [e _ (Nat.le_refl _)]; exact hblk, by rw [e _ (Nat.le_refl _)]; exact hbb, hb7⟩, ⟨by rw [e 0 (by omega)]; exact hB.1, hB.2.1, fun l hl => ?_⟩, fun i hi => ?_, hmono, fun s l hs hl hh => ?_, huni, fun l hl => ?_, hhome, hcp⟩
  · rw [e l (by omega), e (l + 1) (by omega)]; exact hB.2.2 l hl
  · rw [e _ (o9 i hi)]; exact hK i hi
  · rw [e l hl] at hh; exact hcomp s l hs hl hh
  · rw [e l hl]; exact hslots l hl
/-- the procedure's name is declared, its block begins -/
theorem hv_opn {S : CS} {Y : MS2} {μ ν σ σ' bl : Nat → Nat} {w : Int64} (hI : IV T m S Y μ ν σ bl) (hl : S.2.1.2.2.2.2.2.2.1 < 3) (hp : S.2.1.2.2.2.2.2.2.2.2 < 6) (hN : NR (nm_add S.2.1 w 2) σ' bl (dY Y 3 w)) (o : Ok m (S.1 + 1, nm_add S.2.1 w 2, S.2.2)) : HV T m (cp_pOpen (S.1 + 1, nm_add S.2.1 w 2, S.2.2)) (oY (dY Y 3 w) Y.2.2.2.2.2.1) μ ν σ' (va_up bl (S.2.1.2.2.2.2.2.2.1 + 1) Y.2.2.2.2.2.2.2.2.2.2.1) Y.2.2.2.2.2.1 S.2.1.2.2.2.2.2.2.2.2 := by
  obtain ⟨hN0, o0, c0, hPH, ⟨hbl, hRF0⟩, hJ⟩ := hI
  have hN0' := hN0
  obtain ⟨⟨hv, hpr, hsy⟩, ⟨hblk, hbb, hb7⟩, hB, hK, hmono, hcomp, huni, hslots, hhome, hcp⟩ := hN0
  have ea : nm_add S.2.1 w 2 = (va_up S.2.1.1 S.2.1.2.2.2.2.2.1 w, va_up S.2.1.2.1 S.2.1.2.2.2.2.2.1 2, va_up S.2.1.2.2.1 S.2.1.2.2.2.2.2.1 S.2.1.2.2.2.2.2.2.1, va_up S.2.1.2.2.2.1 S.2.1.2.2.2.2.2.1 S.2.1.2.2.2.2.2.2.2.2, S.2.1.2.2.2.2.1, S.2.1.2.2.2.2.2.1 + 1, S.2.1.2.2.2.2.2.2.1, S.2.1.2.2.2.2.2.2.2.1, S.2.1.2.2.2.2.2.2.2.2 + 1) := by unfold nm_add; rw [if_pos rfl]
  have lv : (nm_add S.2.1 w 2).2.2.2.2.2.2.1 = S.2.1.2.2.2.2.2.2.1 := by rw [ea]
  have pr : (nm_add S.2.1 w 2).2.2.2.2.2.2.2.2 = S.2.1.2.2.2.2.2.2.2.2 + 1 := by rw [ea]
  have bk1 : (dY Y 3 w).2.2.2.2.2.2.2.2.2.2.1 = Y.2.2.2.2.2.2.2.2.2.2.1 := rfl
  have hN2 := NR.opn (p := Y.2.2.2.2.2.1) o.2.1 hN (by show (nm_add S.2.1 w 2).2.2.2.2.2.2.1 < 3; rw [lv]; exact hl) (by rw [bk1, hbl]; omega) (by
    intro b hb
    refine cnt_zero fun k hk => ?_
    have z := hN.2.2.2.2.2.2.2.2.1 k hk
    show (decide ((dY Y 3 w).2.2.1 k = b) && _) = false
    rw [decide_eq_false (by omega)]
    rfl)
  have lv2 : (S.1 + 1, nm_add S.2.1 w 2, S.2.2).2.1.2.2.2.2.2.2.1 = S.2.1.2.2.2.2.2.2.1 := lv
  rw [lv] at hN2
  have oO : Ok m (cp_pOpen (S.1 + 1, nm_add S.2.1 w 2, S.2.2)) := ok_pOpen o
  have qe : (nm_add S.2.1 w 2).2.2.2.2.2.2.2.2 - 1 = S.2.1.2.2.2.2.2.2.2.2 := by rw [pr]; omega
  have up : ∀ {α : Type} (f : Nat → α) (z : α) (s : Nat), s < Y.2.2.2.2.2.1 → va_up f Y.2.2.2.2.2.1 z s = f s := fun f z s hs => by unfold va_up; rw [if_neg (by omega)]
  have x : EXT Y S.2.2 S.1 μ ν (oY (dY Y 3 w) Y.2.2.2.2.2.1) (cp_pOpen (S.1 + 1, nm_add S.2.1 w 2, S.2.2)).2.2 (S.1 + 1) μ ν := by
    refine ⟨⟨by show _ ≤ Y.2.2.2.2.2.1 + 1; omega, fun s hs => ⟨up _ _ s hs, up _ _ s hs, up _ _ s hs⟩⟩, ⟨by show _ ≤ Y.2.2.2.2.2.2.2.2.2.2.1 + 1; omega, fun b hb => ?_⟩, ⟨Nat.le_refl _, fun _ _ => ⟨rfl, rfl, rfl⟩⟩, by omega, fun _ _ => ⟨rfl, rfl⟩⟩
    show va_up Y.2.2.2.2.2.2.2.2.1 Y.2.2.2.2.2.2.2.2.2.2.1 _ b = _
    unfold va_up
    rw [if_neg (by omega)]
  have cpn : cnt (pAll (oY (dY Y 3 w) Y.2.2.2.2.2.1)) Y.2.2.2.2.2.1 = S.2.1.2.2.2.2.2.2.2.2 := (x.cP (Nat.le_refl _)).trans hcp
  have sortN : (oY (dY Y 3 w) Y.2.2.2.2.2.1).2.1 Y.2.2.2.2.2.1 = 3 := va_same _ _ _
  have wantN : (oY (dY Y 3 w) Y.2.2.2.2.2.1).2.2.2.2.1 Y.2.2.2.2.2.1 = 0 := va_same _ _ _
  have ownN : (oY (dY Y 3 w) Y.2.2.2.2.2.1).2.2.2.1 Y.2.2.2.2.2.1 = Y.2.2.2.2.2.2.2.2.2.2.1 := va_same _ _ _
  have homeN : (oY (dY Y 3 w) Y.2.2.2.2.2.1).2.2.1 Y.2.2.2.2.2.1 = Y.2.2.2.2.2.2.2.2.2.2.2 := va_same _ _ _
  have arN : (oY (dY Y 3 w) Y.2.2.2.2.2.1).2.2.2.2.2.2.2.2.1 Y.2.2.2.2.2.2.2.2.2.2.1 = some Y.2.2.2.2.2.2.2.2.2.2.2 := va_same _ _ _
  have syN : (oY (dY Y 3 w) Y.2.2.2.2.2.1).2.2.2.2.2.1 = Y.2.2.2.2.2.1 + 1 := rfl
  have parN : (cp_pOpen (S.1 + 1, nm_add S.2.1 w 2, S.2.2)).2.2.2.2.2.2.1 S.2.1.2.2.2.2.2.2.2.2 = 0 := by
    show va_up S.2.2.2.2.2.2.1 ((nm_add S.2.1 w 2).2.2.2.2.2.2.2.2 - 1) 0 _ = 0
    rw [qe]; exact va_same _ _ _
  have refN : (cp_pOpen (S.1 + 1, nm_add S.2.1 w 2, S.2.2)).2.2.2.2.2.2.2.1 S.2.1.2.2.2.2.2.2.2.2 = 0 := by
    show va_up S.2.2.2.2.2.2.2.1 ((nm_add S.2.1 w 2).2.2.2.2.2.2.2.2 - 1) 0 _ = 0
    rw [qe]; exact va_same _ _ _
  have s18 : Y.2.2.2.2.2.1 + 1 ≤ 18 := by have := o0.2.1.2.1; omega
  have hPH2 : PH (cp_pOpen (S.1 + 1, nm_add S.2.1 w 2, S.2.2)).2.2 (oY (dY Y 3 w) Y.2.2.2.2.2.1) := by
    intro s hs h3
    rw [syN] at hs
    rcases Nat.lt_or_ge s Y.2.2.2.2.2.1 with hs2 | hs2
    · have h3' : Y.2.1 s = 3 := (x.1.2 s hs2).2.1.symm.trans h3
      have hne : cnt (pAll Y) s ≠ S.2.1.2.2.2.2.2.2.2.2 := by
        have := cnt_lt (p := pAll Y) hs2 (decide_eq_true h3')
        rw [hcp] at this
        omega
      refine hPH.old x hs2 h3' (up _ _ s hs2) (up _ _ s hs2) ?_ ?_
      · show va_up S.2.2.2.2.2.2.1 ((nm_add S.2.1 w 2).2.2.2.2.2.2.2.2 - 1) 0 _ = _
        rw [qe]; unfold va_up; rw [if_neg hne]
      · show va_up S.2.2.2.2.2.2.2.1 ((nm_add S.2.1 w 2).2.2.2.2.2.2.2.2 - 1) 0 _ = _
        rw [qe]; unfold va_up; rw [if_neg hne]
    · have : s = Y.2.2.2.2.2.1 := by omega
      subst this
      rw [cpn, ownN, homeN, wantN]
      refine ⟨⟨?_, by rw [wantN]; omega, by rw [wantN]; omega, ?_, ?_, ?_⟩, hbl, arN, ?_, ?_⟩
      · rw [wantN]; exact parN
      · intro k hk; rw [wantN] at hk; omega
      · intro k
        rw [wantN]
        have e0 : ¬ (k < 0 ∧ (oY (dY Y 3 w) Y.2.2.2.2.2.1).2.1 (Y.2.2.2.2.2.1 + 1 + k) = 2) := fun z => by omega
        unfold co_isRef
        have refN' : (cp_pOpen (S.1 + 1, nm_add S.2.1 w 2, S.2.2)).2.2.2.2.2.2.2.1 S.2.1.2.2.2.2.2.2.2.2 = 0 := refN
        rw [refN']
        simp [e0]
      · rw [wantN, syN]; omega
      · show _ < Y.2.2.2.2.2.2.2.2.2.2.1 + 1; omega
      · intro k hk; omega
  have hRF : RF (oY (dY Y 3 w) Y.2.2.2.2.2.1) := by
    intro s' hs' h
    rw [syN] at hs'
    rcases Nat.lt_or_ge s' Y.2.2.2.2.2.1 with z | z
    · have h' : Y.2.1 s' = 2 := (x.1.2 s' z).2.1.symm.trans h
      obtain ⟨s, k', q1', q2', q3', q4'⟩ := hRF0 s' z h'
      exact ⟨s, k', by rw [syN]; omega, (x.1.2 s q1').2.1.trans q2', by show k' < va_up Y.2.2.2.2.1 Y.2.2.2.2.2.1 0 s; rw [up _ _ s q1']; exact q3', q4'⟩
    · have : s' = Y.2.2.2.2.2.1 := by omega
      subst this
      rw [sortN] at h
      cases h
  have hJn : JJ T m S.2.1.2.2.2.2.2.2.2.2 (cp_pOpen (S.1 + 1, nm_add S.2.1 w 2, S.2.2)) (oY (dY Y 3 w) Y.2.2.2.2.2.1) μ ν (va_up bl (S.2.1.2.2.2.2.2.2.1 + 1) Y.2.2.2.2.2.2.2.2.2.2.1) := by
    refine JJ.ext (S := S) (S' := cp_pOpen (S.1 + 1, nm_add S.2.1 w 2, S.2.2)) x (fun q' hq' => ⟨?_, ?_⟩) hJ fun q z1 z2 => ?_
    · show va_up S.2.2.2.2.2.2.1 ((nm_add S.2.1 w 2).2.2.2.2.2.2.2.2 - 1) 0 q' = _
      rw [qe]; unfold va_up; rw [if_neg (by omega)]
    · show va_up S.2.2.2.2.2.2.2.1 ((nm_add S.2.1 w 2).2.2.2.2.2.2.2.2 - 1) 0 q' = _
      rw [qe]; unfold va_up; rw [if_neg (by omega)]
    have eo : nm_open (nm_add S.2.1 w 2) = ((nm_add S.2.1 w 2).1, (nm_add S.2.1 w 2).2.1, (nm_add S.2.1 w 2).2.2.1, (nm_add S.2.1 w 2).2.2.2.1, va_up (nm_add S.2.1 w 2).2.2.2.2.1 ((nm_add S.2.1 w 2).2.2.2.2.2.2.1 + 1) 0, (nm_add S.2.1 w 2).2.2.2.2.2.1, (nm_add S.2.1 w 2).2.2.2.2.2.2.1 + 1, (nm_add S.2.1 w 2).2.2.2.2.2.2.2.1, (nm_add S.2.1 w 2).2.2.2.2.2.2.2.2) := by unfold nm_open; rw [if_neg (by rw [lv]; omega)]
    have z1 : q < (nm_open (nm_add S.2.1 w 2)).2.2.2.2.2.2.2.2 := z1
    have z2 : ∀ l, l ≤ (nm_open (nm_add S.2.1 w 2)).2.2.2.2.2.2.1 → va_up bl (S.2.1.2.2.2.2.2.2.1 + 1) Y.2.2.2.2.2.2.2.2.2.2.1 l ≠ q + 1 := z2
    rw [eo] at z1 z2
    have z1 : q < (nm_add S.2.1 w 2).2.2.2.2.2.2.2.2 := z1
    have z2 : ∀ l, l ≤ (nm_add S.2.1 w 2).2.2.2.2.2.2.1 + 1 → va_up bl (S.2.1.2.2.2.2.2.2.1 + 1) Y.2.2.2.2.2.2.2.2.2.2.1 l ≠ q + 1 := z2
    rw [pr] at z1
    rw [lv] at z2
    have z3 := z2 (S.2.1.2.2.2.2.2.2.1 + 1) (Nat.le_refl _)
    rw [va_same] at z3
    refine ⟨by omega, fun l hl' => ?_, rfl, rfl⟩
    have z4 := z2 l (by omega)
    unfold va_up at z4
    rw [if_neg (by omega)] at z4
    exact z4
  refine ⟨⟨hN2, oO, ?_, hPH2, ⟨?_, hRF⟩, ?_⟩, ?_, sortN, cpn, ownN, ?_, ?_, ?_⟩
  · show cz S ≤ 2 * (S.1 + 1); unfold C2 at c0; omega
  · have e9 : (cp_pOpen (S.1 + 1, nm_add S.2.1 w 2, S.2.2)).2.1.2.2.2.2.2.2.2.2 = S.2.1.2.2.2.2.2.2.2.2 + 1 := by
      show (nm_open (nm_add S.2.1 w 2)).2.2.2.2.2.2.2.2 = _
      unfold nm_open; rw [if_neg (by rw [lv]; omega)]; exact pr
    rw [e9]
    show Y.2.2.2.2.2.2.2.2.2.2.1 + 1 = _
    omega
  · refine hJn.mono ?_
    have e9 : (cp_pOpen (S.1 + 1, nm_add S.2.1 w 2, S.2.2)).2.1.2.2.2.2.2.2.2.2 = S.2.1.2.2.2.2.2.2.2.2 + 1 := by
      show (nm_open (nm_add S.2.1 w 2)).2.2.2.2.2.2.2.2 = _
      unfold nm_open; rw [if_neg (by rw [lv]; omega)]; exact pr
    rw [e9]; omega
  · rw [syN]; omega
  · rw [wantN, syN]
  · rw [wantN, ownN]
    refine cnt_zero fun k hk => ?_
    rw [syN] at hk
    show (decide ((oY (dY Y 3 w) Y.2.2.2.2.2.1).2.2.1 k = Y.2.2.2.2.2.2.2.2.2.2.1) && _) = false
    have : ¬ (oY (dY Y 3 w) Y.2.2.2.2.2.1).2.2.1 k = Y.2.2.2.2.2.2.2.2.2.2.1 := by
      rcases Nat.lt_or_ge k Y.2.2.2.2.2.1 with z | z
      · rw [(x.1.2 k z).2.2]; have := hhome k z; omega
      · have : k = Y.2.2.2.2.2.1 := by omega
        subst this
        rw [homeN, hblk]; omega
    rw [decide_eq_false this]; rfl
  · refine ⟨by rw [syN]; exact s18, hJn, ?_⟩
    have e9 : (cp_pOpen (S.1 + 1, nm_add S.2.1 w 2, S.2.2)).2.1.2.2.2.2.2.2.2.2 = S.2.1.2.2.2.2.2.2.2.2 + 1 := by
      show (nm_open (nm_add S.2.1 w 2)).2.2.2.2.2.2.2.2 = _
      unfold nm_open; rw [if_neg (by rw [lv]; omega)]; exact pr
    rw [e9]; omega
/-- the procedure's block is left -/
theorem iv_close {S : CS} {Y : MS2} {μ ν σ bl : Nat → Nat} {l q e : Nat} (hI : IV T m S Y μ ν σ bl) (hl : S.2.1.2.2.2.2.2.2.1 = l + 1) (hq : bl (l + 1) = q + 1) (hB : BI T m S.2.1.2.2.2.2.2.2.2.2 Y S.2.2 S.1 μ ν (bl (l + 1)) e (Y.2.2.2.2.2.2.2.2.2.1 (bl (l + 1)))) : IV T m (cp_pEntry q e S) (cY Y (bl l)) μ ν σ bl := by
  obtain ⟨hN, o, c, hPH, hbl, hJ⟩ := hI
  have x : EXT Y S.2.2 S.1 μ ν (cY Y (bl l)) (cp_pEntry q e S).2.2 (cp_pEntry q e S).1 μ ν := ⟨⟨Nat.le_refl _, fun _ _ => ⟨rfl, rfl, rfl⟩⟩, ⟨Nat.le_refl _, fun _ _ => rfl⟩, ⟨Nat.le_refl _, fun _ _ => ⟨rfl, rfl, rfl⟩⟩, Nat.le_refl _, fun _ _ => ⟨rfl, rfl⟩⟩
  refine ⟨hN.close o.2.1 hl, ok_pEntry o, c, ?_, hbl, ?_⟩
  · intro s hs h3
    exact hPH.old x hs h3 rfl rfl rfl rfl
  · intro q' z1 z2
    have z1 : q' < S.2.1.2.2.2.2.2.2.2.2 := z1
    have z2 : ∀ j, j ≤ S.2.1.2.2.2.2.2.2.1 - 1 → bl j ≠ q' + 1 := z2
    show BI T m S.2.1.2.2.2.2.2.2.2.2 (cY Y (bl l)) (cp_pEntry q e S).2.2 S.1 μ ν (q' + 1) (va_up S.2.2.2.2.2.1 q e q') (Y.2.2.2.2.2.2.2.2.2.1 (q' + 1))
    by_cases h : q' = q
    · subst h
      rw [va_same, ← hq]
      exact hB.ext x (fun _ _ => ⟨rfl, rfl⟩)
    · unfold va_up
      rw [if_neg h]
      refine (hJ q' z1 fun j hj => ?_).ext x (fun _ _ => ⟨rfl, rfl⟩)
      rw [hl] at hj
      rcases Nat.lt_or_ge j (l + 1) with y | y
      · exact z2 j (by omega)
      · have : j = l + 1 := by omega
        rw [this, hq]
        omega
theorem iv_blc {S : CS} {Y : MS2} {μ ν σ bl bl' : Nat → Nat} (hI : IV T m S Y μ ν σ bl) (e : ∀ l, l ≤ S.2.1.2.2.2.2.2.2.1 → bl' l = bl l) : IV T m S Y μ ν σ bl' := by
  obtain ⟨hN, o, c, hPH, hbl, hJ⟩ := hI
  exact ⟨hN.blc o.2.1 e, o, c, hPH, hbl, fun q z1 z2 => hJ q z1 fun l hl => by rw [← e l hl]; exact z2 l hl⟩
def BB (T : Tk) (m : Nat) (X : MS) (n : Nat) : Prop := ∀ S Y μ ν σ bl wi si de, S.2.1.2.2.2.2.2.2.1 + n = 3 → IV T m S Y μ ν σ bl → BO T m X S Y μ ν wi si de (cp_block T n S) bP rK (EB T m bl S.2.1.2.2.2.2.2.2.1 S.1)
theorem bo_proc (t : TkOk T m) (hT : TR T m X) {n : Nat} (hb : ∀ k, n = k + 1 → BB T m X k) {S : CS} {Y : MS2} {μ ν σ bl wi si : Nat → Nat} {de : Nat} (hn : S.2.1.2.2.2.2.2.2.1 + n = 3) (hI : IV T m S Y μ ν σ bl) (hk : kd T S.1 = 1) : BO T m X S Y μ ν wi si de (cp_proc T n S) rP rP (EI T m bl S.2.1.2.2.2.2.2.2.1 (S.1 + 1)) := by
  have tm := t.1
  have o := hI.2.1
  have o1 := o.1
  have e1 := adv_1 t o hk (by decide)
  have hlt := t.lt o.1 hk (by decide)
  have tk : mo_take 4 (BX X Y S.1 none μ ν wi si de) true (BX X Y (S.1 + 1) none μ ν wi si de) := mo_take_y (X := BX X Y S.1 none μ ν wi si de) rfl (show S.1 < 155 by omega) (hT.eq (j := 1) o.1 hk) (by decide)
  have dp : mo_blockDepth (BX X Y (S.1 + 1) none μ ν wi si de) (S.2.1.2.2.2.2.2.2.1 + 1) (BX X Y (S.1 + 1) none μ ν wi si de) := depth_ok (X := BX X Y (S.1 + 1) none μ ν wi si de) hI.1
  cases n with
  | zero =>
    refine bo_bad (t := S.1) (a := S.1 + 1) (Y' := Y) o.1 (rP_proc rfl tk ⟨_, _, dp, by omega, Or.inl ⟨by omega, (show 1 ≤ S.1 + 1 by omega), _, mo_blame_n (X := BX X Y (S.1 + 1) none μ ν wi si de) rfl, rfl⟩⟩ ?_)
    exact rP_w (X := BX X Y (S.1 + 1) (some S.1) μ ν wi si de) rfl (by omega)
  | succ n =>
    have hI2 := iv_adv t hI hk (by decide)
    have oA := hI2.2.1.1
    have hle : S.2.1.2.2.2.2.2.2.1 < 3 := by omega
    show BO T m X S Y μ ν wi si de (bd (cp_dec T 2) (fun _ S1 => bd (cp_pHead T (S1.2.1.2.2.2.2.2.2.2.2 - 1)) (fun _ => bd (cp_block T n) (fun e S2 => cp_expect T 11 (cp_pEntry (S1.2.1.2.2.2.2.2.2.2.2 - 1) e S2))) (cp_pOpen S1)) (adv S)) rP rP _
    rcases dec_cases (wi := wi) (si := si) (de := de) (k := 2) (km := 3) t hT hI2 (Or.inl ⟨rfl, rfl⟩) with ⟨S', d1, d2⟩ | ⟨hk25, d1, d2, d3, d4, d5⟩
    · rw [bd_no d1]
      rw [e1] at d2
      refine ⟨S.1 + 1, Y, S.1 + 1, μ, ν, wi, si, de, by omega, by rw [e1], rP_proc rfl tk ⟨_, _, dp, by omega, Or.inr ⟨by omega, _, d2, Or.inr ⟨S.1 + 1, rfl, by omega, rfl⟩⟩⟩ (rP_w (X := BX X Y (S.1 + 1) (some (S.1 + 1)) μ ν wi si de) rfl (by omega))⟩
    · rw [bd_ok d1]
      have hp6 : S.2.1.2.2.2.2.2.2.2.2 < 6 := d5 rfl
      have ho := hv_opn hI2 hle hp6 d3 d4
      have ea : (nm_add S.2.1 (T.2.2.1 (adv S).1) 2).2.2.2.2.2.2.2.2 - 1 = S.2.1.2.2.2.2.2.2.2.2 := by unfold nm_add; rw [if_pos rfl]; rfl
      have el : (nm_add S.2.1 (T.2.2.1 (adv S).1) 2).2.2.2.2.2.2.1 = S.2.1.2.2.2.2.2.2.1 := by unfold nm_add; rw [if_pos rfl]
      have bk : Y.2.2.2.2.2.2.2.2.2.2.1 = S.2.1.2.2.2.2.2.2.2.2 + 1 := hI.2.2.2.2.1.1
      show BO T m X S Y μ ν wi si de (bd (cp_pHead T ((nm_add S.2.1 (T.2.2.1 (adv S).1) 2).2.2.2.2.2.2.2.2 - 1)) (fun _ => bd (cp_block T n) (fun e S2 => cp_expect T 11 (cp_pEntry ((nm_add S.2.1 (T.2.2.1 (adv S).1) 2).2.2.2.2.2.2.2.2 - 1) e S2))) (cp_pOpen ((adv S).1 + 1, nm_add S.2.1 (T.2.2.1 (adv S).1) 2, S.2.2))) rP rP _
      rw [ea]
      have lO : (cp_pOpen ((adv S).1 + 1, nm_add S.2.1 (T.2.2.1 (adv S).1) 2, S.2.2)).2.1.2.2.2.2.2.2.1 = S.2.1.2.2.2.2.2.2.1 + 1 := by
        show (nm_open (nm_add S.2.1 (T.2.2.1 (adv S).1) 2)).2.2.2.2.2.2.1 = _
        unfold nm_open; rw [if_neg (by rw [el]; omega)]
        show (nm_add S.2.1 (T.2.2.1 (adv S).1) 2).2.2.2.2.2.2.1 + 1 = _
        rw [el]
      have pO : (cp_pOpen ((adv S).1 + 1, nm_add S.2.1 (T.2.2.1 (adv S).1) 2, S.2.2)).1 = S.1 + 2 := by show (adv S).1 + 1 = _; omega
      have sy18 : Y.2.2.2.2.2.1 < 18 := by have := ho.2.2.2.2.2.2.2.1; have : Y.2.2.2.2.2.1 + 1 ≤ 18 := this; omega
      have d2' : mo_declare 3 (BX X Y (S.1 + 1) none μ ν wi si de) (BX X (dY Y 3 (T.2.2.1 (adv S).1)) (S.1 + 2) none μ ν wi si de) := by rw [e1] at d2 ⊢; exact d2
      have en : mo_enter (some (r_block (BX X (dY Y 3 (T.2.2.1 (adv S).1)) (S.1 + 2) none μ ν wi si de))) (BX X (dY Y 3 (T.2.2.1 (adv S).1)) (S.1 + 2) none μ ν wi si de) _ := ⟨(show Y.2.2.2.2.2.2.2.2.2.2.1 < 8 by omega), rfl⟩
      refine BO.pre (P' := hQ Y.2.2.2.2.2.1) (S' := cp_pOpen ((adv S).1 + 1, nm_add S.2.1 (T.2.2.1 (adv S).1) 2, S.2.2)) (Y0 := oY (dY Y 3 (T.2.2.1 (adv S).1)) Y.2.2.2.2.2.1) (μ0 := μ) (ν0 := ν) (wi0 := wi) (si0 := si) (d0 := de) ?_ ?_
      · refine BO.bd (bo_pHead t hT ho) fun v S1 Y' μ' ν' wi' si' d' _ hE => ?_
        obtain ⟨⟨σ1, hH1⟩, hL1, ha1⟩ := hE
        rw [lO] at hL1
        rw [pO] at ha1
        refine BO.bd (hb n rfl S1 Y' μ' ν' σ1 _ wi' si' d' (by omega) hH1.1) fun e S2 Y2 μ2 ν2 wi2 si2 d2 _ hE2 => ?_
        obtain ⟨⟨σ2, hI3⟩, hL2, ha2, hBI⟩ := hE2
        rw [hL1] at hL2 hBI
        have hbq : va_up bl (S.2.1.2.2.2.2.2.2.1 + 1) Y.2.2.2.2.2.2.2.2.2.2.1 (S.2.1.2.2.2.2.2.2.1 + 1) = S.2.1.2.2.2.2.2.2.2.2 + 1 := by rw [va_same, bk]
        have hI4 := iv_close (q := S.2.1.2.2.2.2.2.2.2.2) hI3 hL2 hbq hBI
        have blL : va_up bl (S.2.1.2.2.2.2.2.2.1 + 1) Y.2.2.2.2.2.2.2.2.2.2.1 S.2.1.2.2.2.2.2.2.1 = bl S.2.1.2.2.2.2.2.2.1 := by unfold va_up; rw [if_neg (by omega)]
        have lC : (cp_pEntry S.2.1.2.2.2.2.2.2.2.2 e S2).2.1.2.2.2.2.2.2.1 = S.2.1.2.2.2.2.2.2.1 := by show S2.2.1.2.2.2.2.2.2.1 - 1 = _; omega
        have hI5 : IV T m (cp_pEntry S.2.1.2.2.2.2.2.2.2.2 e S2) (cY Y2 (bl S.2.1.2.2.2.2.2.2.1)) μ2 ν2 σ2 bl := by
          have hI4' : IV T m (cp_pEntry S.2.1.2.2.2.2.2.2.2.2 e S2) (cY Y2 (va_up bl (S.2.1.2.2.2.2.2.2.1 + 1) Y.2.2.2.2.2.2.2.2.2.2.1 S.2.1.2.2.2.2.2.2.1)) μ2 ν2 σ2 (va_up bl (S.2.1.2.2.2.2.2.2.1 + 1) Y.2.2.2.2.2.2.2.2.2.2.1) := hI4
          rw [blL] at hI4'
          refine iv_blc hI4' fun l hl => ?_
          rw [lC] at hl
          unfold va_up; rw [if_neg (by omega)]
        have hN3 := hI3.1
        have b8 : Y2.2.2.2.2.2.2.2.2.2.2.2 < 8 := by have := hN3.2.1; omega
        have ar : Y2.2.2.2.2.2.2.2.2.1 Y2.2.2.2.2.2.2.2.2.2.2.2 = some (bl S.2.1.2.2.2.2.2.2.1) := by
          rw [hN3.2.1.1, hL2, ← blL]
          exact (hN3.2.2.1.2.2 S.2.1.2.2.2.2.2.2.1 (by omega)).2
        have bl8 : bl S.2.1.2.2.2.2.2.2.1 < 8 := by have := hI.1.2.1; omega
        have o5 := hI5.2.1
        have o51 := o5.1
        unfold cp_expect
        by_cases h11 : kd T (cp_pEntry S.2.1.2.2.2.2.2.2.2.2 e S2).1 = 11
        · rw [if_pos h11]
          have e6 := adv_1 t o5 h11 (by decide)
          refine ⟨cY Y2 (bl S.2.1.2.2.2.2.2.2.1), μ2, ν2, wi2, si2, d2, ⟨⟨σ2, iv_adv t hI5 h11 (by decide)⟩, lC, ?_⟩, fun X' hX => ?_⟩
          · rw [e6]; show S.1 + 1 ≤ S2.1 + 1; omega
          · rw [e6] at hX
            exact rK_proc (show S2.1 < 155 from by have : S2.1 ≤ m := o51; omega) b8 ar bl8 (hT.eq (j := 11) o51 h11) hX
        · rw [if_neg h11]
          exact ⟨S2.1, cY Y2 (bl S.2.1.2.2.2.2.2.2.1), S2.1, μ2, ν2, wi2, si2, d2, o51, rfl, rK_procn (show S2.1 < 155 from by have : S2.1 ≤ m := o51; omega) b8 ar bl8 (hT.ne t (j := 11) (i := S2.1) o51 (by decide) h11) (hT.lt t (i := S2.1) o51)⟩
      · intro X' hX
        rw [pO] at hX
        obtain ⟨v15, A1, ht, hX⟩ := hX
        rcases hX with ⟨hv, B, hB, X1, hn2, hr⟩ | ⟨hv, X1, hn2, hr⟩
        · exact rP_proc rfl tk ⟨_, _, dp, by omega, Or.inr ⟨by omega, _, d2', Or.inl ⟨rfl, _, en, sy18, v15, A1, ht, Or.inl ⟨hv, B, hB, hn2⟩⟩⟩⟩ hr
        · exact rP_proc rfl tk ⟨_, _, dp, by omega, Or.inr ⟨by omega, _, d2', Or.inl ⟨rfl, _, en, sy18, v15, A1, ht, Or.inr ⟨hv, hn2⟩⟩⟩⟩ hr
theorem bo_ps (t : TkOk T m) (hT : TR T m X) {n : Nat} (hb : ∀ k, n = k + 1 → BB T m X k) {bl : Nat → Nat} {L a : Nat} (hn : L + n = 3) : ∀ k S Y μ ν σ wi si de, m ≤ S.1 + k → a ≤ S.1 → IV T m S Y μ ν σ bl → S.2.1.2.2.2.2.2.2.1 = L → BO T m X S Y μ ν wi si de (bd (cp_ps T (cp_proc T n) k) (fun _ => cp_body T) S) rP rK (EB T m bl L a) := by
  have tm := t.1
  have body : ∀ (S : CS) Y μ ν σ wi si de, a ≤ S.1 → IV T m S Y μ ν σ bl → S.2.1.2.2.2.2.2.2.1 = L → ¬ kd T S.1 = 1 → BO T m X S Y μ ν wi si de (cp_body T S) rP rK (EB T m bl L a) := by
    intro S Y μ ν σ wi si de ha hI hL h1
    have r := bo_body (wi := wi) (si := si) (de := de) t hT hI h1
    rw [hL] at r
    exact r.post fun v S1 Y' μ' ν' h => ⟨h.1, h.2.1, Nat.le_trans ha h.2.2.1, h.2.2.2⟩
  intro k
  induction k with
  | zero =>
    intro S Y μ ν σ wi si de hm ha hI hL
    rw [bd_ps_0]
    have o1 := hI.2.1.1
    have hS : S.1 = m := by omega
    exact body S Y μ ν σ wi si de ha hI hL (by rw [hS]; rcases t.2.2 with q | q <;> omega)
  | succ k ih =>
    intro S Y μ ν σ wi si de hm ha hI hL
    by_cases h1 : kd T S.1 = 1
    · rw [bd_ps_t h1]
      refine BO.bd (bo_proc t hT hb (by omega) hI h1) fun v S1 Y' μ' ν' wi' si' d' _ hE => ?_
      obtain ⟨⟨σ', hI'⟩, hL', ha'⟩ := hE
      exact ih S1 Y' μ' ν' σ' wi' si' d' (by omega) (by omega) hI' (hL'.trans hL)
    · rw [bd_ps_f h1]
      exact body S Y μ ν σ wi si de ha hI hL h1
theorem bo_block (t : TkOk T m) (hT : TR T m X) : ∀ n, BB T m X n := by
  have tm := t.1
  have step : ∀ n, (∀ k, n = k + 1 → BB T m X k) → BB T m X n := by
    intro n hb S Y μ ν σ bl wi si de hn hI
    have o := hI.2.1
    have o1 := o.1
    rw [cp_block_eq]
    unfold cp_bk
    by_cases h0 : kd T S.1 = 0
    · rw [if_pos h0]
      have e1 := adv_1 t o h0 (by decide)
      refine BO.pre (P' := dP 0 vL) (S' := adv S) (Y0 := Y) (μ0 := μ) (ν0 := ν) (wi0 := wi) (si0 := si) (d0 := de) (BO.bd (bo_vars t hT (iv_adv t hI h0 (by decide))) fun v S1 Y' μ' ν' wi' si' d' _ hE => ?_) (fun X' hX => ?_)
      · obtain ⟨⟨σ', hI'⟩, hL', ha'⟩ := hE
        exact bo_ps t hT hb hn 150 S1 Y' μ' ν' σ' wi' si' d' (by omega) (by omega) hI' hL'
      · rw [e1] at hX
        exact bP_var (mo_take_y (X := BX X Y S.1 none μ ν wi si de) rfl (show S.1 < 155 by omega) (hT.eq (j := 0) o.1 h0) (by decide)) hX
    · rw [if_neg h0]
      refine BO.pre (bo_ps t hT hb hn 150 S Y μ ν σ wi si de (by omega) (Nat.le_refl _) hI rfl) fun X' hX => ?_
      exact bP_no (mo_take_n (X := BX X Y S.1 none μ ν wi si de) rfl (show S.1 < 155 by omega) (hT.ne t (j := 0) o.1 (by decide) h0) (hT.lt t o.1) (by decide)) hX
  intro n
  induction n with
  | zero => exact step 0 fun k h => by omega
  | succ n ih => exact step (n + 1) fun k h => by have : k = n := by omega
                                                  subst this; exact ih
end PQs
