/-! ===== the emitted code is fit to be run ===== -/
theorem cd_ok {C : Co} (o : CoOk C) (k : KO C) (hs : C.2.2.2.2.2.2.2 < 2 ^ 31) : CdOk C :=
  ⟨o.1, fun i _ => ⟨o.2.1 i, (k.1 i).1, (k.1 i).2⟩, fun q _ => ⟨Nat.le_trans (o.2.2.2 q) (by decide), k.2 q⟩, hs⟩
/-- a program that was read has few variables, and the rest of what running asks for -/
theorem pg_pf2 {T : Tk} {m : Nat} {Y : MS2} {D : Co} {μ ν : Nat → Nat} (t : TkOk T m) (h : PG T m Y D μ ν) : PF2 T m Y := by
  obtain ⟨aa, lim, hPH, hRF, h18, h6, h12, h3, hB0, hBq⟩ := h
  exact ⟨t, h3, h18, h12⟩
