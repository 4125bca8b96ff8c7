/-! ===== compile, run alike ===== -/
section RC
variable {l : Launch} {zc zm : Zt} {a b : Nat → Nat} {o : Nat} {S : CST} {X : MS}
theorem both_compile (hlt : l.stackTraces = false) (h : REL S X) : BOTH l zc zm a b o y_Lw_compile b_Lw_compile 3 hh_Lw_compile [.ref (a 0), .ref o] y_Mo_compile b_Mo_compile 2 [.ref (b 0)] S X := by
  obtain ⟨u, w, P, F, T, N, C, D, M⟩ := S
  obtain ⟨hX, g2, g3, g4, g5, g6, g7, g8, g9⟩ := h
  dsimp only at hX g2 g3 g4 g5 g6 g7 g8 g9
  have hP : ∀ j, P.1 j < 2 ^ 16 := fun j => Nat.lt_trans (hX.2.2.2 j) (by decide)
  have ok : ∀ m, Ok m (cp_s0 N C) := fun m => ⟨Nat.zero_le _, nmOk_clear g4, ⟨by show 0 ≤ 300; omega, g5.1.2⟩⟩
  obtain ⟨m, tk, hok, ⟨q, S1, X', hr, hm, hG⟩ | ⟨v, S1, X', Y, μ, ν, hr, hm, hG, hpg, hrg, hst⟩⟩ := comp_both hX T (a 1) g4 g5.1 g5.2
  · obtain ⟨k1, k2, k3⟩ := hok S1 (by rw [hr])
    have e0 : X'.1.1 = 1 := by rw [hG.1]
    have e1 : X'.1.2.1 = X.1.2.1 := by rw [hG.1]
    have e2 : X'.1.2.2.1 = X.1.2.2.1 := by rw [hG.1]
    have e3 : X'.1.2.2.2.1 = nI q := by rw [hG.1]
    have e4 : X'.1.2.2.2.2 = X.1.2.2.2.2 := by rw [hG.1]
    exact ⟨1, 0, nI 0, (u, w, P, nI q, tk_at (tk_all P.1 T (a 1) P.2.1) S1.1, S1.2.1, S1.2.2, D, M), X', by decide, lc_compile_IAE (c_PM_compile_no 1 hlt hX.2.1 hP tk (ok m) hr) rfl, c_Mo_compile 53 hm, e0, fun q => absurd q (by decide), hX.same e1 e2, e4.trans g2, e3, k1, ⟨k2, k3⟩, g6, g7, g8.same hG.2.2, fun p => (g9 p).same hG.2.1⟩
  · obtain ⟨k1, k2, k3⟩ := hok S1 (by rw [hr])
    have e0 : X'.1.1 = 0 := by rw [hG.1]
    have e1 : X'.1.2.1 = X.1.2.1 := by rw [hG.1]
    have e2 : X'.1.2.2.1 = X.1.2.2.1 := by rw [hG.1]
    have e3 : X'.1.2.2.2.1 = -1 := by rw [hG.1]
    have e4 : X'.1.2.2.2.2 = true := by rw [hG.1]
    exact ⟨0, (nI v).toInt64, nI v, (w, u, (P.1, P.2.1, true), -1, tk_at (tk_all P.1 T (a 1) P.2.1) S1.1, S1.2.1, D, S1.2.2, M), X', by decide, lc_compile_ok (c_PM_compile_ok 1 hlt hX.2.1 hP tk (ok m) hr) rfl, c_Mo_compile 53 hm, e0, fun _ => rfl, hX.same e1 e2, e4, e3, k1, g6, ⟨k2, k3⟩, g7, g8.same hG.2, fun _ => ⟨hst, _, m, Y, μ, ν, tk, hpg, hrg⟩⟩
theorem both_run (hlt : l.stackTraces = false) (h : REL S X) : BOTH l zc zm a b o y_Lw_run b_Lw_run 3 hh_Lw_run [.ref (a 0), .ref o] y_Mo_run b_Mo_run 2 [.ref (b 0)] S X := by
  have h' := h
  obtain ⟨u, w, P, F, T, N, C, D, M⟩ := S
  obtain ⟨hX, g2, g3, g4, g5, g6, g7, g8, g9⟩ := h
  dsimp only at hX g2 g3 g4 g5 g6 g7 g8 g9
  by_cases hp : P.2.2 = true
  · obtain ⟨hst, T', m, Y, μ, ν, tk, hpg, hrg⟩ := g9 hp
    have hD : CdOk D := cd_ok g6.1 g6.2 hst
    have hr2 := c_PM_run_2 (z := zc) (a := a) (u := u) (w := w) (P := P) (F := F) (T := T) (N := N) (C := C) (M := M) 57 hlt hD g7 hp
    have hok := ok_run hD 1000000 (ok_begin hD g7)
    have fin : ∀ (K' : Mc) (X' X2 : MS), (mc_run D 1000000 (mc_begin D M)).2 = K' → OBS K' X' → GZ X X' → X2.1.2 = X'.1.2 → X2.2 = X'.2 → REL (u, w, P, F, T, N, C, D, K') X2 := by
      intro K' X' X2 e1 e2 e3 e4 e5
      have z0 : X2.1.2 = X.1.2 := by rw [e4, e3.1]
      have z3 : X2.2.2.2.1 = X.2.2.2.1 := by rw [e5]; exact e3.2.2.2.1
      rw [e1] at hok
      refine ⟨hX.same (by rw [z0]) (by rw [z0]), ?_, ?_, g4, g5, g6, hok, e2.same (by rw [e5]), fun p => (g9 p).same z3⟩
      · show X2.1.2.2.2.2 = _; rw [z0]; exact g2
      · show X2.1.2.2.2.1 = _; rw [z0]; exact g3
    rcases run_both (M := M) (pg_pf2 tk hpg) hpg hrg (by rw [g2]; exact hp) with ⟨K', X', e1, e2, e3, e4⟩ | ⟨E, K', X', e1, e2, e3, e4, e5⟩
    · rw [e1] at hr2
      have t0 : X'.1.1 = 0 := by rw [e4.1]
      exact ⟨0, _, nI (r_written X'), (u, w, P, F, T, N, C, D, K'), X', by decide, lc_run_ok hr2 rfl, c_Mo_run 55 e2, t0, fun _ => by rw [e3.1], fin K' X' X' (by rw [e1]) e3 e4 rfl rfl⟩
    · rw [e1] at hr2
      have hf := fin K' X' (w_thrown X' (r_failure X')) (by rw [e1]) e4 e5 rfl rfl
      have hr3 : XC l (Gz zc) 62 y_PM_run b_PM_run 1 (some .int) [.ref (a 0)] (cw zc a u w P F T N C D M) (.inr E) (cw zc a u w P F T N C D K') := hr2
      rcases e2 with ⟨rfl, c⟩ | ⟨rfl, c⟩ | ⟨rfl, c⟩
      · exact ⟨2, 0, nI 0, (u, w, P, F, T, N, C, D, K'), _, by decide, lc_run_ARE hr3 rfl, c_Mo_run 55 e3, c, fun q => absurd q (by decide), hf⟩
      · exact ⟨3, 0, nI 0, (u, w, P, F, T, N, C, D, K'), _, by decide, lc_run_ISE hr3 rfl, c_Mo_run 55 e3, c, fun q => absurd q (by decide), hf⟩
      · exact ⟨4, 0, nI 0, (u, w, P, F, T, N, C, D, K'), _, by decide, lc_run_IOE hr3 rfl, c_Mo_run 55 e3, c, fun q => absurd q (by decide), hf⟩
  · have hp' : P.2.2 = false := Bool.eq_false_iff.2 hp
    exact ⟨1, 0, nI 0, (u, w, P, F, T, N, C, D, M), _, by decide, lc_run_NSE (c_PM_run_1 62 hlt hp') rfl, c_Mo_run 55 (mo_run_no (by rw [g2]; exact hp)), rfl, fun q => absurd q (by decide), h'.thr 0 1⟩
end RC
