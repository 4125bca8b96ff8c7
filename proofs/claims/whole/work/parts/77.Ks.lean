/-! ===== the code's operands are small: the program ===== -/
section KS
variable {T : Tk} {m : Nat}
theorem kb_pc {n : Nat} (t : TkOk T m) {b : CS → CR} (hb : KB m n b) (S : CS) (hS : S.2.1.2.2.2.2.2.2.1 + (n + 1) = 3) (h1 : kd T S.1 = 1) (o : Ok m S) (q : KO S.2.2) : KO (cp_pc T b S).2.2.2 := by
  unfold cp_pc
  have oA : Ok m (adv S) := ok_adv t o h1 (by decide)
  refine ko_bd (S := adv S) (ko_dec (adv S)) (fun v S1 hx => ?_) q
  have hd := rl_dec (k := 2) t (by decide) (adv S) oA
  rw [hx] at hd
  have l1 : S1.2.1.2.2.2.2.2.2.1 = S.2.1.2.2.2.2.2.2.1 := hd.2 v rfl
  have o2 := ok_pOpen hd.1
  have l2 : (cp_pOpen S1).2.1.2.2.2.2.2.2.1 = S.2.1.2.2.2.2.2.2.1 + 1 := (nm_level_open (by omega)).trans (by rw [l1])
  intro q1
  refine ko_bd (S := cp_pOpen S1) (ko_pHead (cp_pOpen S1)) (fun v2 S2 hx2 => ?_) (show KO (cp_pOpen S1).2.2 from q1)
  have hp := rl_pHead (q := S1.2.1.2.2.2.2.2.2.2.2 - 1) t (cp_pOpen S1) o2
  rw [hx2] at hp
  have l3 : S2.2.1.2.2.2.2.2.2.1 = S.2.1.2.2.2.2.2.2.1 + 1 := (hp.2 v2 rfl).trans l2
  intro q2
  have k := hb S2 (by omega) hp.1 q2
  refine ko_bd (fun _ => k.1) (fun e S3 hx3 => ?_) q2
  intro q3
  refine ko_expect _ ⟨q3.1, fun p => ?_⟩
  have e300 := k.2 e S3 hx3
  show va_up S3.2.2.2.2.2.1 _ e p < 2 ^ 31
  unfold va_up
  split
  · omega
  · exact q3.2 p
theorem kb_block (t : TkOk T m) (no : NO T m) : ∀ n, KB m n (cp_block T n) := by
  have bk : ∀ n (x : CS → CR), (∀ S, S.2.1.2.2.2.2.2.2.1 + n = 3 → kd T S.1 = 1 → RL m S (x S)) → (∀ S, S.2.1.2.2.2.2.2.2.1 + n = 3 → kd T S.1 = 1 → Ok m S → KO S.2.2 → KO (x S).2.2.2) → KB m n (cp_bk T x) := by
    intro n x hr hx S hS o q
    have ps := kb_ps t no hr hx 150
    unfold cp_bk
    by_cases h0 : kd T S.1 = 0
    · rw [if_pos h0]
      have oA : Ok m (adv S) := ok_adv t o h0 (by decide)
      have a := ko_vars (T := T) (adv S) q
      have r := rl_vars t (adv S) oA
      rcases hR : cp_vars T (adv S) with ⟨p | v, S1⟩
      · rw [bd_no hR]
        rw [hR] at a
        exact ⟨a, fun v S1 h => by cases h⟩
      · rw [bd_ok hR]
        rw [hR] at a r
        exact ps S1 (by have : S1.2.1.2.2.2.2.2.2.1 = S.2.1.2.2.2.2.2.2.1 := r.2 v rfl; omega) r.1 a
    · rw [if_neg h0]
      exact ps S hS o q
  intro n
  induction n with
  | zero => exact bk 0 _ (fun S _ _ => RL.ofS RS.rf) (fun S _ _ _ q => q)
  | succ n ih => exact bk (n + 1) _ (fun S h1 h2 => rl_pc t (rl_block t n) S h1 h2) (fun S h1 h2 o q => kb_pc t ih S h1 h2 o q)
/-- the whole text -/
theorem ko_all (t : TkOk T m) (no : NO T m) {N : Nm} {C : Co} (oN : NmOk N) (oC : CoOk C) (hC : KO C) {v : Nat} {S1 : CS} (h : cp_all T (cp_s0 N C) = (.inr v, S1)) : KO S1.2.2 ∧ S1.2.2.2.2.2.2.2.2.2 < 2 ^ 31 := by
  have k := kb_block t no 3 (cp_s0 N C) rfl ⟨Nat.zero_le _, nmOk_clear oN, ⟨by show 0 ≤ 300; omega, oC.2⟩⟩ hC
  obtain ⟨e, S2, h1, h2⟩ := bd_inv h
  have e300 := k.2 e S2 h1
  rw [h1] at k
  obtain ⟨w, S3, h3, h4⟩ := bd_inv h2
  unfold cp_expect at h3
  split at h3
  · cases h3
    split at h4
    · cases h4
      exact ⟨k.1, by show e < 2 ^ 31; omega⟩
    · cases h4
  · cases h3
end KS
