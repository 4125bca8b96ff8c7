/-! ===== the model's call, step by step ===== -/
/-- the model's running state, but for frames, memory and place -/
def NX (X : MS) (fr : Option Nat) (bo : Nat → Nat) (ou : Nat → Option Nat) (ba le : Nat → Nat) (gr : Nat) (ce : Nat → Int32) (sd : Nat → Nat) (p : Nat) : MS := (X.1, X.2.1, X.2.2.1, X.2.2.2.1, X.2.2.2.2.1, (ce, sd, bo, ou, ba, le, X.2.2.2.2.2.1.2.2.2.2.2.2.1, X.2.2.2.2.2.1.2.2.2.2.2.2.2.1, fr, p, X.2.2.2.2.2.1.2.2.2.2.2.2.2.2.2.2.1, X.2.2.2.2.2.1.2.2.2.2.2.2.2.2.2.2.2.1, gr, X.2.2.2.2.2.1.2.2.2.2.2.2.2.2.2.2.2.2.2.1, X.2.2.2.2.2.1.2.2.2.2.2.2.2.2.2.2.2.2.2.2.1, X.2.2.2.2.2.1.2.2.2.2.2.2.2.2.2.2.2.2.2.2.2), X.2.2.2.2.2.2)
section CA
variable {X X' : MS} {fr : Option Nat} {bo ba le : Nat → Nat} {ou : Nat → Option Nat} {gr p : Nat} {ce : Nat → Int32} {sd : Nat → Nat}
theorem nx_fr : w_frame X fr = NX X fr (r_blockOf X) (r_outer X) (r_back X) (r_level X) (r_greatest X) (r_cell X) (r_stands X) (r_pc X) := rfl
theorem nx_gr {g2 : Nat} : w_greatest (NX X fr bo ou ba le gr ce sd p) g2 = NX X fr bo ou ba le g2 ce sd p := rfl
theorem nx_bo {b2 : Nat → Nat} : w_blockOf (NX X fr bo ou ba le gr ce sd p) b2 = NX X fr b2 ou ba le gr ce sd p := rfl
theorem nx_ou {o2 : Nat → Option Nat} : w_outer (NX X fr bo ou ba le gr ce sd p) o2 = NX X fr bo o2 ba le gr ce sd p := rfl
theorem nx_ba {b2 : Nat → Nat} : w_back (NX X fr bo ou ba le gr ce sd p) b2 = NX X fr bo ou b2 le gr ce sd p := rfl
theorem nx_le {l2 : Nat → Nat} : w_level (NX X fr bo ou ba le gr ce sd p) l2 = NX X fr bo ou ba l2 gr ce sd p := rfl
theorem nx_ce {c2 : Nat → Int32} : w_cell (NX X fr bo ou ba le gr ce sd p) c2 = NX X fr bo ou ba le gr c2 sd p := rfl
theorem nx_sd {s2 : Nat → Nat} : w_stands (NX X fr bo ou ba le gr ce sd p) s2 = NX X fr bo ou ba le gr ce s2 p := rfl
theorem nx_pc {q : Nat} : w_pc (NX X fr bo ou ba le gr ce sd p) q = NX X fr bo ou ba le gr ce sd q := rfl
theorem nx_rce : r_cell (NX X fr bo ou ba le gr ce sd p) = ce := rfl
theorem nx_rsd : r_stands (NX X fr bo ou ba le gr ce sd p) = sd := rfl
theorem nx_rfr : r_frame (NX X fr bo ou ba le gr ce sd p) = fr := rfl
theorem nx_gv : r_given (NX X fr bo ou ba le gr ce sd p) = r_given X := rfl
theorem nx_own : r_pOwn (NX X fr bo ou ba le gr ce sd p) = r_pOwn X := rfl
theorem nx_body : r_pBody (NX X fr bo ou ba le gr ce sd p) = r_pBody X := rfl
theorem nx_GR : GR X (NX X fr bo ou ba le gr ce sd p) := ⟨rfl, rfl, rfl, rfl, rfl⟩
def eC (s n k : Nat) (X X' : MS) : Prop := ∃ fu, mo_enterCall_go s fu 0 n k 0 X X'
theorem ec_ref {s n k v : Nat} (hk : k < n) (hn : n ≤ 3) (h0 : r_failure X = 0) (hs : s + 1 + k < 18) (h2 : r_pSort X (s + 1 + k) = 2) (hp : r_pc X + 1 < 155) (hpl : mo_place (r_pMeans X (r_pc X + 1)) (w_pc X (r_pc X + 1)) v (w_pc X (r_pc X + 1))) (h : eC s n (k + 1) (w_pc (w_given (w_pc X (r_pc X + 1)) (upd (r_given X) k (nI v))) (r_pc X + 2)) X') : eC s n k X X' := by
  obtain ⟨fu, h⟩ := h
  refine ⟨fu + 1, ?_⟩
  rw [mo_enterCall_go]
  exact ⟨by omega, by omega, Or.inr ⟨by omega, by omega, Or.inl ⟨h0, hs, by omega, Or.inl ⟨h2, hp, v, _, hpl, by omega, h⟩⟩⟩⟩
theorem ec_val {s n k : Nat} {x : Int32} {X1 : MS} (hk : k < n) (hn : n ≤ 3) (h0 : r_failure X = 0) (hs : s + 1 + k < 18) (hb : r_pSort X (s + 1 + k) < 2147483648) (h2 : ¬ r_pSort X (s + 1 + k) = 2) (he : mo_evaluate (w_pc X (r_pc X + 1)) x X1) (h : eC s n (k + 1) (w_given X1 (upd (r_given X1) k x)) X') : eC s n k X X' := by
  obtain ⟨fu, h⟩ := h
  refine ⟨fu + 1, ?_⟩
  rw [mo_enterCall_go]
  exact ⟨by omega, by omega, Or.inr ⟨by omega, by omega, Or.inl ⟨h0, hs, hb, Or.inr ⟨h2, x, X1, he, by omega, h⟩⟩⟩⟩
theorem ec_fail {s n k : Nat} (hk : k ≤ n) (hn : n ≤ 3) (hn0 : ¬ n = 0) (h0 : ¬ r_failure X = 0) (hb : r_failure X < 2147483648) : eC s n k X (w_pc X (r_pc X + 1)) := by
  refine ⟨1, ?_⟩
  rw [mo_enterCall_go]
  refine ⟨by omega, by omega, ?_⟩
  by_cases h : n ≤ k
  · exact Or.inl ⟨h, Or.inr ⟨hn0, hb, Or.inr ⟨h0, rfl⟩⟩⟩
  · exact Or.inr ⟨h, hb, Or.inr ⟨h0, Or.inr ⟨hn0, rfl⟩⟩⟩
/-- behind the arguments -/
def aX (X : MS) (n : Nat) : MS := if n = 0 then X else w_pc X (r_pc X + 1)
theorem ec_deep {s n : Nat} (hn : n ≤ 3) (h0 : r_failure X = 0) (hf : r_frame X = some 10) : eC s n n X (w_failure (aX X n) 4) := by
  refine ⟨1, ?_⟩
  rw [mo_enterCall_go]
  refine ⟨by omega, by omega, Or.inl ⟨Nat.le_refl _, ?_⟩⟩
  unfold aX
  by_cases h : n = 0
  · rw [if_pos h]
    exact Or.inl ⟨h, by omega, Or.inl ⟨h0, 10, hf, by decide, Or.inl ⟨rfl, rfl⟩⟩⟩
  · rw [if_neg h]
    exact Or.inr ⟨h, by omega, Or.inl ⟨h0, 10, hf, by decide, Or.inl ⟨rfl, rfl⟩⟩⟩
/-- the new frame's state, before its cells are set -/
def fX (X : MS) (f g b : Nat) : MS := NX X (some (f + 1)) (va_up (r_blockOf X) (f + 1) b) (va_up (r_outer X) (f + 1) (some g)) (va_up (r_back X) (f + 1) (r_pc X)) (va_up (r_level X) (f + 1) 0) (max (r_greatest X) (f + 1)) (r_cell X) (r_stands X) (r_pc X)
def eT (s n : Nat) (X X' : MS) : Prop := ∃ fu, mo_enterCall_go s fu 1 n 0 0 X X'
theorem ec_in {s n f g : Nat} (hn : n ≤ 3) (h0 : r_failure X = 0) (hf : r_frame X = some f) (hf10 : f < 10) (hs : s < 18) (hg : r_greatest X < 2147483648) (hr : mo_runOf (r_pHome X s) (aX X n) g (aX X n)) (h : eT s n (fX (aX X n) f g (r_pOwn X s)) X') : eC s n n X X' := by
  obtain ⟨fu, h⟩ := h
  refine ⟨fu + 1, ?_⟩
  rw [mo_enterCall_go]
  refine ⟨by omega, by omega, Or.inl ⟨Nat.le_refl _, ?_⟩⟩
  have key : ∀ Z : MS, r_frame Z = some f → r_greatest Z = r_greatest X → r_pOwn Z s = r_pOwn X s → mo_enterCall_go s fu 1 n 0 0 (fX Z f g (r_pOwn X s)) X' → (((f + 1) ≤ (r_greatest Z) ∧ (s < 18 ∧ ((f + 1) < 11 ∧ ((f + 1) < 11 ∧ ((f + 1) < 11 ∧ ((f + 1) < 11 ∧ (mo_enterCall_go s fu 1 n 0 0 (w_level (w_back (w_outer (w_blockOf (w_frame Z (some (f + 1))) (va_up (r_blockOf Z) (f + 1) ((r_pOwn Z) s))) (va_up (r_outer Z) (f + 1) (some g))) (va_up (r_back Z) (f + 1) (r_pc Z))) (va_up (r_level Z) (f + 1) 0)) X'))))))) ∨ (¬ (f + 1) ≤ (r_greatest Z) ∧ (s < 18 ∧ ((f + 1) < 11 ∧ ((f + 1) < 11 ∧ ((f + 1) < 11 ∧ ((f + 1) < 11 ∧ (mo_enterCall_go s fu 1 n 0 0 (w_level (w_back (w_outer (w_blockOf (w_greatest (w_frame Z (some (f + 1))) (f + 1)) (va_up (r_blockOf Z) (f + 1) ((r_pOwn Z) s))) (va_up (r_outer Z) (f + 1) (some g))) (va_up (r_back Z) (f + 1) (r_pc Z))) (va_up (r_level Z) (f + 1) 0)) X')))))))) := by
    intro Z z1 z2 z3 z4
    unfold fX at z4
    by_cases hm : f + 1 ≤ r_greatest Z
    · refine Or.inl ⟨hm, hs, by omega, by omega, by omega, by omega, ?_⟩
      rw [nx_fr, nx_bo, nx_ou, nx_ba, nx_le, z3]
      rw [Nat.max_eq_left hm] at z4
      exact z4
    · refine Or.inr ⟨hm, hs, by omega, by omega, by omega, by omega, ?_⟩
      rw [nx_fr, nx_gr, nx_bo, nx_ou, nx_ba, nx_le, z3]
      rw [Nat.max_eq_right (by omega)] at z4
      exact z4
  unfold aX at hr h
  by_cases hz : n = 0
  · rw [if_pos hz] at hr h
    exact Or.inl ⟨hz, by omega, Or.inl ⟨h0, f, hf, by omega, Or.inr ⟨by omega, hs, g, X, hr, f, hf, by omega, hg, key X hf rfl rfl h⟩⟩⟩
  · rw [if_neg hz] at hr h
    exact Or.inr ⟨hz, by omega, Or.inl ⟨h0, f, hf, by omega, Or.inr ⟨by omega, hs, g, _, hr, f, hf, by omega, hg, key (w_pc X (r_pc X + 1)) hf rfl rfl h⟩⟩⟩
/-- the cells of frame f cleared, the first j of them -/
def clr (ce : Nat → Int32) (f j : Nat) : Nat → Int32 := fun i => if 12 * f ≤ i ∧ i < 12 * f + j then nI 0 else ce i
theorem clr_up {f j : Nat} : upd (clr ce f j) (12 * f + j) (nI 0) = clr ce f (j + 1) := by
  funext i
  unfold upd clr
  by_cases h : i = 12 * f + j
  · rw [if_pos h, if_pos (by omega)]
  · rw [if_neg h]
    by_cases h2 : 12 * f ≤ i ∧ i < 12 * f + j
    · rw [if_pos h2, if_pos (by omega)]
    · rw [if_neg h2, if_neg (by omega)]
def eP (s n k : Nat) (X X' : MS) : Prop := ∃ fu, mo_enterCall_go s fu 2 n 0 k X X'
theorem et_clr {s n f : Nat} (hf : f < 11) (h : eP s n 0 (NX X (some f) bo ou ba le gr (clr ce f 12) sd p) X') : eT s n (NX X (some f) bo ou ba le gr ce sd p) X' := by
  have main : ∀ j k, k + j = 12 → ∃ fu, mo_enterCall_go s fu 1 n 0 k (NX X (some f) bo ou ba le gr (clr ce f k) sd p) X' := by
    intro j
    induction j with
    | zero =>
      intro k hk
      have : k = 12 := by omega
      subst this
      obtain ⟨fu, h⟩ := h
      refine ⟨fu + 1, ?_⟩
      rw [mo_enterCall_go]
      exact ⟨by omega, Or.inl ⟨by omega, h⟩⟩
    | succ j ih =>
      intro k hk
      obtain ⟨fu, h⟩ := ih (k + 1) (by omega)
      refine ⟨fu + 1, ?_⟩
      rw [mo_enterCall_go]
      refine ⟨by omega, Or.inr ⟨by omega, f, nx_rfr, by omega, ?_⟩⟩
      rw [nx_rce, nx_ce, clr_up]
      exact h
  have := main 12 0 rfl
  have e : clr ce f 0 = ce := by funext i; unfold clr; rw [if_neg (by omega)]
  rw [e] at this
  exact this
/-- the parameters, the first k of them, in the frame's cells -/
def pce (Y : MS2) (gv ce : Nat → Int32) (f s : Nat) : Nat → (Nat → Int32)
  | 0 => ce
  | k + 1 => upd (pce Y gv ce f s k) (12 * f + gsl Y (s + 1 + k)) (gv k)
def psd (Y : MS2) (gv : Nat → Int32) (sd : Nat → Nat) (f s : Nat) : Nat → (Nat → Nat)
  | 0 => sd
  | k + 1 => va_up (psd Y gv sd f s k) (12 * f + gsl Y (s + 1 + k)) (i32n (gv k))
theorem ep_par {T : Tk} {m : Nat} {Y : MS2} {μ ν : Nat → Nat} {s n f : Nat} (hG : RG T m Y μ ν X) (h3 : ∀ s, s < Y.2.2.2.2.2.1 → Y.2.1 s ≤ 3) (h18 : Y.2.2.2.2.2.1 ≤ 18) (h12 : cnt (vAll Y) Y.2.2.2.2.2.1 ≤ 12) (hf : f < 11) (hn : n ≤ 3) (hs : s + 1 + n ≤ Y.2.2.2.2.2.1) (hv : ∀ k, k < n → Y.2.1 (s + 1 + k) ≠ 3) (hs18 : s < 18) (ho : r_pOwn X s < 8) : eP s n 0 (NX X (some f) bo ou ba le gr ce sd p) (NX X (some f) bo ou ba le gr (pce Y (r_given X) ce f s n) (psd Y (r_given X) sd f s n) (r_pBody X (r_pOwn X s))) := by
  have main : ∀ j k, k + j = n → ∃ fu, mo_enterCall_go s fu 2 n 0 k (NX X (some f) bo ou ba le gr (pce Y (r_given X) ce f s k) (psd Y (r_given X) sd f s k) p) (NX X (some f) bo ou ba le gr (pce Y (r_given X) ce f s n) (psd Y (r_given X) sd f s n) (r_pBody X (r_pOwn X s))) := by
    intro j
    induction j with
    | zero =>
      intro k hk
      have : k = n := by omega
      subst this
      refine ⟨1, ?_⟩
      rw [mo_enterCall_go]
      refine ⟨by omega, by omega, Or.inl ⟨Nat.le_refl _, hs18, by rw [nx_own]; exact ho, ?_⟩⟩
      rw [nx_own, nx_body, nx_pc]
    | succ j ih =>
      intro k hk
      obtain ⟨fu, h⟩ := ih (k + 1) (by omega)
      refine ⟨fu + 1, ?_⟩
      have sl := slot_ok (X := NX X (some f) bo ou ba le gr (pce Y (r_given X) ce f s k) (psd Y (r_given X) sd f s k) p) (rg_gr hG nx_GR) h3 h18 (s := s + 1 + k) (by omega)
      have gl := gsl_lt h12 (show s + 1 + k < Y.2.2.2.2.2.1 by omega) (hv k (by omega))
      rw [mo_enterCall_go]
      refine ⟨by omega, by omega, Or.inr ⟨by omega, f, nx_rfr, gsl Y (s + 1 + k), _, sl, by omega, by omega, by omega, by omega, ?_⟩⟩
      rw [nx_rce, nx_ce, nx_rsd, nx_sd, nx_gv]
      exact h
  exact main n 0 (by omega)
end CA
