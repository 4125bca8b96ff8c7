/-! ===== every statement runs alike ===== -/
section CE
variable {T : Tk} {m : Nat} {Y : MS2} {D : Co} {μ ν : Nat → Nat}
theorem run_stm (pf : PF2 T m Y) (hPG : PG T m Y D μ ν) : ∀ b n, STMT T m Y D μ ν b n := by
  intro b
  induction b using Nat.strongRecOn with
  | ind b ihb =>
    intro n
    induction n with
    | zero =>
      intro S S1 v0 N σ bl f K X hG hN o c e hT h hD hμ hn hA hl hb
      have h : cp_st T (cp_no T) (cp_no T) (cp_no T) S = (.inr v0, S1) := h
      unfold cp_st at h
      split at h
      · split at h
        · exact ro_assign pf hG hN o c e (by assumption) (by assumption) h hD hμ hA
        · exact ro_call pf hPG (fun b' hb' n' => ihb b' hb' n') hG hN o c e hT (by assumption) h hD hμ hA (by omega) hb
      · split at h
        · cases h
        · split at h
          · cases h
          · split at h
            · cases h
            · split at h
              · exact ro_write pf hG hN o c e (by assumption) h hD hμ hA
              · cases h
                exact ro_empty pf hG o (by assumption) (by assumption) (by assumption) (by assumption) (by assumption) hA
    | succ n ihn =>
      intro S S1 v0 N σ bl f K X hG hN o c e hT h hD hμ hn hA hl hb
      have hst := h
      have h : cp_st T (fun S => cp_stmts T (cp_stm T n) (adv S)) (fun S => cp_if T (cp_stm T n) (adv S)) (fun S => cp_while T (cp_stm T n) (adv S)) S = (.inr v0, S1) := h
      unfold cp_st at h
      split at h
      · split at h
        · exact ro_assign pf hG hN o c e (by assumption) (by assumption) h hD hμ hA
        · exact ro_call pf hPG (fun b' hb' n' => ihb b' hb' n') hG hN o c e hT (by assumption) h hD hμ hA (by omega) hb
      · split at h
        · rename_i hk
          exact ro_begin pf ihn hG hN o c e hT hk h hD hμ (hn.1 hk) hA hl hb
        · split at h
          · rename_i hk
            exact ro_if pf (fun b' hb' n' => ihb b' hb' n') hG hN o c e hT hk h hD hμ (hn.2.1 hk) hA hl hb
          · split at h
            · rename_i hk
              exact ro_while pf (fun b' hb' n' => ihb b' hb' n') hG hN o c e hT hk h hst hD hμ (hn.2.2 hk) hn hA hl hb
            · split at h
              · exact ro_write pf hG hN o c e (by assumption) h hD hμ hA
              · cases h
                exact ro_empty pf hG o (by assumption) (by assumption) (by assumption) (by assumption) (by assumption) hA
end CE
