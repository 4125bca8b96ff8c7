/-! ===== blocks: class and model ===== -/
/-- a block begins for the procedure at p -/
def oY (Y : MS2) (p : Nat) : MS2 := (Y.1, Y.2.1, Y.2.2.1, va_up Y.2.2.2.1 p Y.2.2.2.2.2.2.2.2.2.2.1, Y.2.2.2.2.1, Y.2.2.2.2.2.1, Y.2.2.2.2.2.2.1, Y.2.2.2.2.2.2.2.1, va_up Y.2.2.2.2.2.2.2.2.1 Y.2.2.2.2.2.2.2.2.2.2.1 (some Y.2.2.2.2.2.2.2.2.2.2.2), Y.2.2.2.2.2.2.2.2.2.1, Y.2.2.2.2.2.2.2.2.2.2.1 + 1, Y.2.2.2.2.2.2.2.2.2.2.1)
/-- the block is left -/
def cY (Y : MS2) (b : Nat) : MS2 := (Y.1, Y.2.1, Y.2.2.1, Y.2.2.2.1, Y.2.2.2.2.1, Y.2.2.2.2.2.1, Y.2.2.2.2.2.2.1, Y.2.2.2.2.2.2.2.1, Y.2.2.2.2.2.2.2.2.1, Y.2.2.2.2.2.2.2.2.2.1, Y.2.2.2.2.2.2.2.2.2.2.1, b)
section NB
variable {N : Nm} {σ bl : Nat → Nat} {Y : MS2}
theorem NR.opn {p : Nat} (o : NmOk N) (h : NR N σ bl Y) (hl : N.2.2.2.2.2.2.1 < 3) (hb : Y.2.2.2.2.2.2.2.2.2.2.1 ≤ 6) (hu : ∀ b, Y.2.2.2.2.2.2.2.2.2.2.1 ≤ b → cnt (vIn Y b) Y.2.2.2.2.2.1 = 0) : NR (nm_open N) σ (va_up bl (N.2.2.2.2.2.2.1 + 1) Y.2.2.2.2.2.2.2.2.2.2.1) (oY Y p) := by
  obtain ⟨⟨hv, hp, hsy⟩, ⟨hblk, hbb, hb7⟩, hB, hK, hmono, hcomp, huni, hslots, hhome, hcp⟩ := h
  obtain ⟨o1, o2, o3, o4, o5, o6, o7, o8, o9⟩ := o
  have eo : nm_open N = (N.1, N.2.1, N.2.2.1, N.2.2.2.1, va_up N.2.2.2.2.1 (N.2.2.2.2.2.2.1 + 1) 0, N.2.2.2.2.2.1, N.2.2.2.2.2.2.1 + 1, N.2.2.2.2.2.2.2.1, N.2.2.2.2.2.2.2.2) := by unfold nm_open; rw [if_neg (by omega)]
  rw [eo]
  have up : ∀ l, l ≤ N.2.2.2.2.2.2.1 → va_up bl (N.2.2.2.2.2.2.1 + 1) Y.2.2.2.2.2.2.2.2.2.2.1 l = bl l := fun l hl => by unfold va_up; rw [if_neg (by omega)]
  have ble : ∀ l, l ≤ N.2.2.2.2.2.2.1 → bl l ≤ bl N.2.2.2.2.2.2.1 := fun l hl => by
    rcases Nat.lt_or_ge l N.2.2.2.2.2.2.1 with q | q
    · exact Nat.le_of_lt (hB.mono q (Nat.le_refl _))
    · have : l = N.2.2.2.2.2.2.1 := by omega
      rw [this]; exact Nat.le_refl _
  have upA : ∀ b, b < Y.2.2.2.2.2.2.2.2.2.2.1 → (oY Y p).2.2.2.2.2.2.2.2.1 b = Y.2.2.2.2.2.2.2.2.1 b := fun b hb => by show va_up Y.2.2.2.2.2.2.2.2.1 _ _ b = _; unfold va_up; rw [if_neg (by omega)]
  refine ⟨⟨hv, hp, hsy⟩, ⟨?_, ?_, ?_⟩, ⟨?_, ?_, ?_⟩, ?_, hmono, ?_, huni, ?_, ?_, hcp⟩
  · exact (va_same _ _ _).symm
  · show va_up bl _ _ _ < Y.2.2.2.2.2.2.2.2.2.2.1 + 1; rw [va_same]; omega
  · show Y.2.2.2.2.2.2.2.2.2.2.1 + 1 ≤ 7; omega
  · rw [up 0 (by omega)]; exact hB.1
  · rw [upA 0 (by have := ble 0 (by omega); have := hB.1; omega)]; exact hB.2.1
  · intro l hl2
    have hl2 : l < N.2.2.2.2.2.2.1 + 1 := hl2
    rcases Nat.lt_or_ge l N.2.2.2.2.2.2.1 with q | q
    · rw [up l (by omega), up (l + 1) (by omega)]
      have z := hB.2.2 l q
      have z2 := ble (l + 1) (by omega)
      rw [upA _ (by omega)]
      exact z
    · have : l = N.2.2.2.2.2.2.1 := by omega
      subst this
      rw [up _ (Nat.le_refl _), va_same]
      refine ⟨hbb, ?_⟩
      show va_up Y.2.2.2.2.2.2.2.2.1 _ _ _ = _
      rw [va_same, hblk]
  · intro i hi
    have k := hK i hi
    have := o9 i hi
    show σ i < Y.2.2.2.2.2.1 ∧ Y.1 (σ i) = N.1 i ∧ Y.2.2.1 (σ i) = va_up bl _ _ (N.2.2.1 i) ∧ sr (N.2.1 i) (Y.2.1 (σ i)) ∧ (N.2.1 i = 2 → N.2.2.2.1 i = cnt (pAll Y) (σ i)) ∧ (N.2.1 i ≠ 2 → N.2.2.2.1 i = cnt (vIn Y (va_up bl _ _ (N.2.2.1 i))) (σ i))
    rw [up _ (by omega)]
    exact k
  · intro s l hs hl2 hh
    have hl2 : l ≤ N.2.2.2.2.2.2.1 + 1 := hl2
    have hs : s < Y.2.2.2.2.2.1 := hs
    have hh : Y.2.2.1 s = va_up bl (N.2.2.2.2.2.2.1 + 1) Y.2.2.2.2.2.2.2.2.2.2.1 l := hh
    rcases Nat.lt_or_ge l (N.2.2.2.2.2.2.1 + 1) with q | q
    · rw [up l (by omega)] at hh
      exact hcomp s l hs (by omega) hh
    · have : l = N.2.2.2.2.2.2.1 + 1 := by omega
      rw [this, va_same] at hh
      have := hhome s hs
      omega
  · intro l hl2
    have hl2 : l ≤ N.2.2.2.2.2.2.1 + 1 := hl2
    show va_up N.2.2.2.2.1 (N.2.2.2.2.2.2.1 + 1) 0 l = cnt (vIn Y (va_up bl (N.2.2.2.2.2.2.1 + 1) Y.2.2.2.2.2.2.2.2.2.2.1 l)) Y.2.2.2.2.2.1
    rcases Nat.lt_or_ge l (N.2.2.2.2.2.2.1 + 1) with q | q
    · rw [up l (by omega)]
      unfold va_up
      rw [if_neg (by omega)]
      exact hslots l (by omega)
    · have : l = N.2.2.2.2.2.2.1 + 1 := by omega
      rw [this, va_same, va_same]
      exact (hu _ (Nat.le_refl _)).symm
  · intro s hs
    have := hhome s hs
    show Y.2.2.1 s < Y.2.2.2.2.2.2.2.2.2.2.1 + 1 ∧ Y.2.1 s ≤ 3
    omega
theorem cut_le (N : Nm) : ∀ k, nm_cut N k ≤ k := by
  intro k
  induction k with
  | zero => exact Nat.le_refl _
  | succ k ih => unfold nm_cut; split <;> omega
theorem cut_hi (N : Nm) : ∀ k i, nm_cut N k ≤ i → i < k → N.2.2.1 i = N.2.2.2.2.2.2.1 := by
  intro k
  induction k with
  | zero => intro i _ h; omega
  | succ k ih =>
    intro i h1 h2
    unfold nm_cut at h1
    split at h1
    · rcases Nat.lt_or_ge i k with q | q
      · exact ih i h1 q
      · have : i = k := by omega
        subst this; assumption
    · omega
theorem cut_lo (o : NmOk N) : ∀ k, k ≤ N.2.2.2.2.2.1 → ∀ i, i < nm_cut N k → N.2.2.1 i < N.2.2.2.2.2.2.1 := by
  obtain ⟨o1, o2, o3, o4, o5, o6, o7, o8, o9⟩ := o
  intro k
  induction k with
  | zero => intro _ i h; unfold nm_cut at h; omega
  | succ k ih =>
    intro hk i h
    unfold nm_cut at h
    split at h
    · exact ih (by omega) i h
    · have h1 := o8 i k (by omega) (by omega)
      have h2 := o9 k (by omega)
      omega
theorem NR.close {l : Nat} (o : NmOk N) (h : NR N σ bl Y) (hl : N.2.2.2.2.2.2.1 = l + 1) : NR (nm_close N) σ bl (cY Y (bl l)) := by
  have clo := cut_lo o N.2.2.2.2.2.1 (Nat.le_refl _)
  obtain ⟨⟨hv, hp, hsy⟩, ⟨hblk, hbb, hb7⟩, hB, hK, hmono, hcomp, huni, hslots, hhome, hcp⟩ := h
  obtain ⟨o1, o2, o3, o4, o5, o6, o7, o8, o9⟩ := o
  have cle := cut_le N N.2.2.2.2.2.1
  have e : (nm_close N).2.2.2.2.2.2.1 = l := by show N.2.2.2.2.2.2.1 - 1 = l; omega
  refine ⟨⟨hv, hp, hsy⟩, ⟨by rw [e]; rfl, ?_, hb7⟩, ⟨hB.1, hB.2.1, ?_⟩, ?_, ?_, ?_, ?_, ?_, hhome, hcp⟩
  · rw [e]
    have := hB.mono (show l < l + 1 by omega) (by omega)
    rw [hl] at hbb
    show bl l < Y.2.2.2.2.2.2.2.2.2.2.1
    omega
  · intro q hq
    rw [e] at hq
    exact hB.2.2 q (by omega)
  · intro i hi
    exact hK i (show i < N.2.2.2.2.2.1 from Nat.lt_of_lt_of_le hi cle)
  · intro i j hij hj
    exact hmono i j hij (Nat.lt_of_lt_of_le hj cle)
  · intro s q hs hq hh
    rw [e] at hq
    obtain ⟨i, hi, es⟩ := hcomp s q hs (by omega) hh
    refine ⟨i, ?_, es⟩
    show i < nm_cut N N.2.2.2.2.2.1
    rcases Nat.lt_or_ge i (nm_cut N N.2.2.2.2.2.1) with z | z
    · exact z
    · have z1 := cut_hi N N.2.2.2.2.2.1 i z hi
      have k := hK i hi
      subst es
      have : N.2.2.1 i = q := hB.inj (o9 i hi) (by omega) (k.2.2.1.symm.trans hh)
      omega
  · intro i j hi hj h1 h2
    exact huni i j (Nat.lt_of_lt_of_le hi cle) (Nat.lt_of_lt_of_le hj cle) h1 h2
  · intro q hq
    rw [e] at hq
    exact hslots q (by omega)
end NB
/-- what is known of every procedure that was declared -/
def PH (C : Co) (Y : MS2) : Prop := ∀ s, s < Y.2.2.2.2.2.1 → Y.2.1 s = 3 → PQ C (cnt (pAll Y) s) s Y ∧ Y.2.2.2.1 s = cnt (pAll Y) s + 1 ∧ Y.2.2.2.2.2.2.2.2.1 (Y.2.2.2.1 s) = some (Y.2.2.1 s) ∧ Y.2.2.2.1 s < Y.2.2.2.2.2.2.2.2.2.2.1 ∧ ∀ k, k < Y.2.2.2.2.1 s → Y.2.2.1 (s + 1 + k) = Y.2.2.2.1 s ∧ (Y.2.1 (s + 1 + k) = 1 ∨ Y.2.1 (s + 1 + k) = 2) ∧ cnt (vIn Y (Y.2.2.2.1 s)) (s + 1 + k) = k
theorem PH.pa {C : Co} {Y : MS2} {N : Nm} {σ bl : Nat → Nat} (h : PH C Y) (hN : NR N σ bl Y) : PA C N σ Y := by
  intro i hi h2
  have k := hN.2.2.2.1 i hi
  have h3 : Y.2.1 (σ i) = 3 := by rcases k.2.2.2.1 with q | q | q; exact q.2; omega; omega
  rw [k.2.2.2.2.1 h2]
  exact (h (σ i) k.1 h3).1
/-- a block's body, read: where it begins and ends in both -/
def BI (T : Tk) (m lim : Nat) (Y : MS2) (C : Co) (a : Nat) (μ ν : Nat → Nat) (b e tb : Nat) : Prop := ∃ (S S1 : CS) (σ bl : Nat → Nat) (v : Nat), S.1 = tb ∧ cz S = e ∧ S1.1 ≤ a ∧ bl S.2.1.2.2.2.2.2.2.1 = b ∧ b < Y.2.2.2.2.2.2.2.2.2.2.1 ∧ Ok m S ∧ C2 S ∧ BL S.2.1 bl Y ∧ NK S.2.1 σ bl Y ∧ cp_stmts T (cp_stm T 8) S = (.inr v, S1) ∧ (∀ i, e ≤ i → i < cz S1 → C.1 i = S1.2.2.1 i ∧ C.2.1 i = S1.2.2.2.1 i ∧ C.2.2.1 i = S1.2.2.2.2.1 i) ∧ cz S1 < C.2.2.2.2.2.2.1 ∧ C.1 (cz S1) = 19 ∧ (∀ t, S.1 ≤ t → t < S1.1 → kd T t = 25 → ∃ i, nm_find S.2.1 (T.2.2.1 t) = some i ∧ μ t = σ i) ∧ (∀ νf : Nat → Nat, (∀ t, S.1 ≤ t → t < S1.1 → νf t = ν t) → nxl T (cp_stm T 8) (nxs T νf 8) S) ∧ (S.2.1.2.2.2.2.2.2.2.2 ≤ lim ∧ ∀ i, i < S.2.1.2.2.2.2.2.1 → S.2.1.2.1 i = 2 → S.2.1.2.2.2.1 i < S.2.1.2.2.2.2.2.2.2.2) ∧ ∀ q', q' < S.2.1.2.2.2.2.2.2.2.2 → C.2.2.2.2.1 q' = S.2.2.2.2.2.2.1 q' ∧ C.2.2.2.2.2.1 q' = S.2.2.2.2.2.2.2.1 q'
/-- more is declared, written, read -/
def EXT (Y : MS2) (C : Co) (a : Nat) (μ ν : Nat → Nat) (Y' : MS2) (C' : Co) (a' : Nat) (μ' ν' : Nat → Nat) : Prop :=
  (Y.2.2.2.2.2.1 ≤ Y'.2.2.2.2.2.1 ∧ ∀ s, s < Y.2.2.2.2.2.1 → Y'.1 s = Y.1 s ∧ Y'.2.1 s = Y.2.1 s ∧ Y'.2.2.1 s = Y.2.2.1 s) ∧
  (Y.2.2.2.2.2.2.2.2.2.2.1 ≤ Y'.2.2.2.2.2.2.2.2.2.2.1 ∧ ∀ b, b < Y.2.2.2.2.2.2.2.2.2.2.1 → Y'.2.2.2.2.2.2.2.2.1 b = Y.2.2.2.2.2.2.2.2.1 b) ∧
  (C.2.2.2.2.2.2.1 ≤ C'.2.2.2.2.2.2.1 ∧ ∀ i, i < C.2.2.2.2.2.2.1 → C'.1 i = C.1 i ∧ C'.2.1 i = C.2.1 i ∧ C'.2.2.1 i = C.2.2.1 i) ∧
  (a ≤ a' ∧ ∀ t, t < a → μ' t = μ t ∧ ν' t = ν t)
theorem EXT.cP {Y Y' : MS2} {C C' : Co} {a a' : Nat} {μ ν μ' ν' : Nat → Nat} (h : EXT Y C a μ ν Y' C' a' μ' ν') {n : Nat} (hn : n ≤ Y.2.2.2.2.2.1) : cnt (pAll Y') n = cnt (pAll Y) n := cnt_congr fun q hq => by
  show decide (Y'.2.1 q = 3) = decide (Y.2.1 q = 3)
  rw [(h.1.2 q (by omega)).2.1]
theorem EXT.cV {Y Y' : MS2} {C C' : Co} {a a' : Nat} {μ ν μ' ν' : Nat → Nat} (h : EXT Y C a μ ν Y' C' a' μ' ν') {b n : Nat} (hn : n ≤ Y.2.2.2.2.2.1) : cnt (vIn Y' b) n = cnt (vIn Y b) n := cnt_congr fun q hq => by
  show (decide (Y'.2.2.1 q = b) && decide (Y'.2.1 q ≠ 3)) = (decide (Y.2.2.1 q = b) && decide (Y.2.1 q ≠ 3))
  rw [(h.1.2 q (by omega)).2.1, (h.1.2 q (by omega)).2.2]
theorem NK.ext {Y Y' : MS2} {C C' : Co} {a a' : Nat} {μ ν μ' ν' : Nat → Nat} (h : EXT Y C a μ ν Y' C' a' μ' ν') {N : Nm} {σ bl : Nat → Nat} (k : NK N σ bl Y) : NK N σ bl Y' := by
  intro i hi
  have q := k i hi
  have e := h.1.2 (σ i) q.1
  refine ⟨Nat.lt_of_lt_of_le q.1 h.1.1, e.1.trans q.2.1, e.2.2.trans q.2.2.1, by rw [e.2.1]; exact q.2.2.2.1, fun z => ?_, fun z => ?_⟩
  · rw [h.cP (Nat.le_of_lt q.1)]; exact q.2.2.2.2.1 z
  · rw [h.cV (Nat.le_of_lt q.1)]; exact q.2.2.2.2.2 z
theorem BL.le {N : Nm} {bl : Nat → Nat} {Y : MS2} (hB : BL N bl Y) {l : Nat} (hl : l ≤ N.2.2.2.2.2.2.1) : bl l ≤ bl N.2.2.2.2.2.2.1 := by
  rcases Nat.lt_or_ge l N.2.2.2.2.2.2.1 with q | q
  · exact Nat.le_of_lt (hB.mono q (Nat.le_refl _))
  · have : l = N.2.2.2.2.2.2.1 := by omega
    rw [this]; exact Nat.le_refl _
theorem BL.ext {Y Y' : MS2} {C C' : Co} {a a' : Nat} {μ ν μ' ν' : Nat → Nat} (h : EXT Y C a μ ν Y' C' a' μ' ν') {N : Nm} {bl : Nat → Nat} (hB : BL N bl Y) (hb : bl N.2.2.2.2.2.2.1 < Y.2.2.2.2.2.2.2.2.2.2.1) : BL N bl Y' := by
  refine ⟨hB.1, ?_, fun l hl => ⟨(hB.2.2 l hl).1, ?_⟩⟩
  · rw [h.2.1.2 0 (by omega)]; exact hB.2.1
  · have := hB.le (show l + 1 ≤ N.2.2.2.2.2.2.1 from hl)
    rw [h.2.1.2 _ (by omega)]
    exact (hB.2.2 l hl).2
theorem BI.ext {T : Tk} {m lim : Nat} {Y Y' : MS2} {C C' : Co} {a a' : Nat} {μ ν μ' ν' : Nat → Nat} (h : EXT Y C a μ ν Y' C' a' μ' ν') (tb' : ∀ q', q' < lim → C'.2.2.2.2.1 q' = C.2.2.2.2.1 q' ∧ C'.2.2.2.2.2.1 q' = C.2.2.2.2.2.1 q') {b e tb : Nat} (k : BI T m lim Y C a μ ν b e tb) : BI T m lim Y' C' a' μ' ν' b e tb := by
  obtain ⟨S, S1, σ, bl, v, k1, k2, k3, k4, k5, k6, k7, k8, k9, k10, k11, k12, k13, k14, k15, k16, k17⟩ := k
  refine ⟨S, S1, σ, bl, v, k1, k2, Nat.le_trans k3 h.2.2.2.1, k4, Nat.lt_of_lt_of_le k5 h.2.1.1, k6, k7, k8.ext h (k4 ▸ k5), k9.ext h, k10, ?_, Nat.lt_of_lt_of_le k12 h.2.2.1.1, ?_, ?_, ?_, k16, fun q' hq => ⟨(tb' q' (Nat.lt_of_lt_of_le hq k16.1)).1.trans (k17 q' hq).1, (tb' q' (Nat.lt_of_lt_of_le hq k16.1)).2.trans (k17 q' hq).2⟩⟩
  · intro i h1 h2
    have e := h.2.2.1.2 i (by omega)
    have q := k11 i h1 h2
    exact ⟨e.1.trans q.1, e.2.1.trans q.2.1, e.2.2.trans q.2.2⟩
  · rw [(h.2.2.1.2 _ k12).1]; exact k13
  · intro t h1 h2 h3
    rw [(h.2.2.2.2 t (by omega)).1]
    exact k14 t h1 h2 h3
  · intro νf hf
    exact k15 νf fun t h1 h2 => by rw [hf t h1 h2, (h.2.2.2.2 t (by omega)).2]
theorem BI.mono {T : Tk} {m lim lim' : Nat} {Y : MS2} {C : Co} {a : Nat} {μ ν : Nat → Nat} {b e tb : Nat} (k : BI T m lim Y C a μ ν b e tb) (hl : lim ≤ lim') : BI T m lim' Y C a μ ν b e tb := by
  obtain ⟨S, S1, σ, bl, v, k1, k2, k3, k4, k5, k6, k7, k8, k9, k10, k11, k12, k13, k14, k15, k16, k17⟩ := k
  exact ⟨S, S1, σ, bl, v, k1, k2, k3, k4, k5, k6, k7, k8, k9, k10, k11, k12, k13, k14, k15, ⟨Nat.le_trans k16.1 hl, k16.2⟩, k17⟩
/-- every procedure that is done -/
def JJ (T : Tk) (m lim : Nat) (S : CS) (Y : MS2) (μ ν bl : Nat → Nat) : Prop := ∀ q, q < S.2.1.2.2.2.2.2.2.2.2 → (∀ l, l ≤ S.2.1.2.2.2.2.2.2.1 → bl l ≠ q + 1) → BI T m lim Y S.2.2 S.1 μ ν (q + 1) (S.2.2.2.2.2.1 q) (Y.2.2.2.2.2.2.2.2.2.1 (q + 1))
/-- what is by reference is a parameter -/
def RF (Y : MS2) : Prop := ∀ s', s' < Y.2.2.2.2.2.1 → Y.2.1 s' = 2 → ∃ s k, s < Y.2.2.2.2.2.1 ∧ Y.2.1 s = 3 ∧ k < Y.2.2.2.2.1 s ∧ s' = s + 1 + k
def IV (T : Tk) (m : Nat) (S : CS) (Y : MS2) (μ ν σ bl : Nat → Nat) : Prop := NR S.2.1 σ bl Y ∧ Ok m S ∧ C2 S ∧ PH S.2.2 Y ∧ (Y.2.2.2.2.2.2.2.2.2.2.1 = S.2.1.2.2.2.2.2.2.2.2 + 1 ∧ RF Y) ∧ JJ T m S.2.1.2.2.2.2.2.2.2.2 S Y μ ν bl
theorem JJ.mono {T : Tk} {m lim lim' : Nat} {S : CS} {Y : MS2} {μ ν bl : Nat → Nat} (h : JJ T m lim S Y μ ν bl) (hl : lim ≤ lim') : JJ T m lim' S Y μ ν bl := fun q h1 h2 => (h q h1 h2).mono hl
