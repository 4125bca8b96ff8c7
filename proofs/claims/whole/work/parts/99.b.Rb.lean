/-! ===== append, cut, output, count alike ===== -/
section RB
variable {l : Launch} {zc zm : Zt} {a b : Nat → Nat} {o : Nat} {S : CST} {X : MS}
theorem REL.thr (h : REL S X) (i j : Nat) : REL S (w_thrown (w_thrown X i) j) := h.same rfl rfl rfl
theorem REL.th (h : REL S X) (i : Nat) : REL S (w_thrown X i) := h.same rfl rfl rfl
theorem both_append (hlt : l.stackTraces = false) (h : REL S X) (v : Int64) (x : Int32) : BOTH l zc zm a b o y_Lw_append b_Lw_append 6 hh_Lw_append [.ref (a 0), .long v, .int x, .ref o] y_Mo_append b_Mo_append 6 [.ref (b 0), .long v, .int x] S X := by
  have h' := h
  obtain ⟨u, w, P, F, T, N, C, D, M⟩ := S
  obtain ⟨⟨x1, x2, x3, x4⟩, g2, g3, g4, g5, g6, g7, g8, g9⟩ := h
  dsimp only at x1 x2 x3 x4 g2 g3 g4 g5 g6 g7 g8 g9
  have bad : ∀ (hL : XC l (Gz zc) 62 y_PM_append b_PM_append 5 (some .int) [.ref (a 0), .long v, .int x] (cw zc a u w P F T N C D M) (.inr IAE) (cw zc a u w P F T N C D M)) (hM : XC l (Gz zm) 62 y_Mo_append b_Mo_append 6 (some .int) [.ref (b 0), .long v, .int x] (mw zm b X) (.inl (some (.int (nI 0)))) (mw zm b (w_thrown (w_thrown X 0) 1))), BOTH l zc zm a b o y_Lw_append b_Lw_append 6 hh_Lw_append [.ref (a 0), .long v, .int x, .ref o] y_Mo_append b_Mo_append 6 [.ref (b 0), .long v, .int x] (u, w, P, F, T, N, C, D, M) X := fun hL hM =>
    ⟨1, 0, nI 0, (u, w, P, F, T, N, C, D, M), _, by decide, lc_append_IAE hL rfl, hM, rfl, fun q => absurd q (by decide), h'.thr 0 1⟩
  rcases in1_8 (x := x) with q | q | ⟨k, k1, k8, rfl⟩
  · exact bad (c_PM_append_1 60 hlt (Or.inl q)) (c_Mo_append_1 60 (Or.inl q))
  · exact bad (c_PM_append_1 60 hlt (Or.inr q)) (c_Mo_append_1 60 (Or.inr q))
  · by_cases hc : pm_codes v k = true
    · by_cases hl : P.2.1 + k ≤ 300
      · have e : r_length X + k ≤ 300 := by omega
        refine ⟨0, (nI (P.2.1 + k)).toInt64, nI (r_length X + k), (u, w, (pm_put v k P.1 P.2.1, P.2.1 + k, P.2.2), F, T, N, C, D, M), _, by decide, lc_append_ok (c_PM_append_4 60 k1 k8 hc hl) rfl, c_Mo_append_4 60 k1 k8 hc e, rfl, fun _ => by rw [x1], ?_⟩
        refine ⟨⟨?_, hl, ?_, ?_⟩, g2, g3, g4, g5, g6, g7, g8.same rfl, fun q => (g9 q).same rfl⟩
        · show r_length X + k = _; rw [x1]
        · show ∀ j, j < P.2.1 + k → pm_put v k (r_text X) (r_length X) j = pm_put v k P.1 P.2.1 j
          rw [x1]
          exact pm_put_agree k _ _ _ x3
        · exact pm_put_lt k _ _ x4 (fun j hj => pm_ok_byte k 0 hc j (Nat.zero_le _) (by omega))
      · have e : 300 < r_length X + k := by omega
        have e2 : 300 < P.2.1 + k := by omega
        exact ⟨2, 0, nI 0, (u, w, P, F, T, N, C, D, M), _, by decide, lc_append_ISE (c_PM_append_3 60 hlt k1 k8 hc x2 e2) rfl, c_Mo_append_3 60 k1 k8 hc (by omega) e, rfl, fun q => absurd q (by decide), h'.thr 0 2⟩
    · have hc : pm_codes v k = false := Bool.eq_false_iff.2 hc
      exact bad (c_PM_append_2 60 hlt k1 k8 hc) (c_Mo_append_2 60 k1 k8 hc)
theorem nI_lt_of_le {n : Nat} {x : Int32} (hn : n + 1 < 2 ^ 31) (h : nI (n + 1) ≤ x) : nI n < x := by
  rw [Int32.le_iff_toInt_le] at h
  rw [Int32.lt_iff_toInt_lt]
  have e1 : (nI (n + 1)).toInt = ((n + 1 : Nat) : Int) := Int32.toInt_ofNat_of_lt hn
  have e2 : (nI n).toInt = (n : Int) := Int32.toInt_ofNat_of_lt (by omega)
  omega
theorem both_cut (hlt : l.stackTraces = false) (h : REL S X) (x : Int32) : BOTH l zc zm a b o y_Lw_cut b_Lw_cut 4 hh_Lw_cut [.ref (a 0), .int x, .ref o] y_Mo_cut b_Mo_cut 2 [.ref (b 0), .int x] S X := by
  have h' := h
  obtain ⟨u, w, P, F, T, N, C, D, M⟩ := S
  obtain ⟨⟨x1, x2, x3, x4⟩, g2, g3, g4, g5, g6, g7, g8, g9⟩ := h
  dsimp only at x1 x2 x3 x4 g2 g3 g4 g5 g6 g7 g8 g9
  have bad : (x < 0 ∨ nI P.2.1 < x) → BOTH l zc zm a b o y_Lw_cut b_Lw_cut 4 hh_Lw_cut [.ref (a 0), .int x, .ref o] y_Mo_cut b_Mo_cut 2 [.ref (b 0), .int x] (u, w, P, F, T, N, C, D, M) X := fun q =>
    ⟨1, 0, nI 0, (u, w, P, F, T, N, C, D, M), _, by decide, lc_cut_IAE (c_PM_cut_1 62 hlt q) rfl, c_Mo_cut_1 60 (by rw [x1]; exact q), rfl, fun q => absurd q (by decide), h'.thr 0 1⟩
  rcases pk_ix x (n := P.2.1 + 1) (by omega) with q | q | ⟨k, k1, rfl⟩
  · exact bad (Or.inl q)
  · exact bad (Or.inr (nI_lt_of_le (by omega) q))
  · have e2 : k ≤ P.2.1 := by omega
    refine ⟨0, (nI (P.2.1 - k)).toInt64, nI (r_length X - k), (u, w, (P.1, P.2.1 - k, P.2.2), F, T, N, C, D, M), _, by decide, lc_cut_ok (c_PM_cut_2 62 e2 x2) rfl, c_Mo_cut_2 60 (by omega) (by omega), rfl, fun _ => by rw [x1], ?_⟩
    refine ⟨⟨?_, ?_, ?_, x4⟩, g2, g3, g4, g5, g6, g7, g8.same rfl, fun q => (g9 q).same rfl⟩
    · show r_length X - k = _; rw [x1]
    · show P.2.1 - k ≤ 300; omega
    · intro j hj
      have : j < P.2.1 - k := hj
      exact x3 j (by omega)
theorem both_output (hlt : l.stackTraces = false) (h : REL S X) (x : Int32) : BOTH l zc zm a b o y_Lw_output b_Lw_output 4 hh_Lw_output [.ref (a 0), .int x, .ref o] y_Mo_output b_Mo_output 2 [.ref (b 0), .int x] S X := by
  have h' := h
  obtain ⟨u, w, P, F, T, N, C, D, M⟩ := S
  obtain ⟨-, -, -, -, -, -, -, ⟨o1, o2, o3, -⟩, -⟩ := h
  dsimp only at o1 o2 o3
  have bad : (x < 0 ∨ nI M.2.2.2.2.2.2.2.2.1 ≤ x) → BOTH l zc zm a b o y_Lw_output b_Lw_output 4 hh_Lw_output [.ref (a 0), .int x, .ref o] y_Mo_output b_Mo_output 2 [.ref (b 0), .int x] (u, w, P, F, T, N, C, D, M) X := fun q =>
    ⟨1, 0, nI 0, (u, w, P, F, T, N, C, D, M), _, by decide, lc_output_NSE (c_PM_output_1 62 hlt q) rfl, c_Mo_output_1 60 (by rw [o1]; exact q), rfl, fun q => absurd q (by decide), h'.thr 0 1⟩
  rcases pk_ix x (n := M.2.2.2.2.2.2.2.2.1) (by omega) with q | q | ⟨k, k1, rfl⟩
  · exact bad (Or.inl q)
  · exact bad (Or.inr q)
  · exact ⟨0, (M.2.2.2.2.2.2.2.1 k).toInt64, r_output X k, (u, w, P, F, T, N, C, D, M), _, by decide, lc_output_ok (c_PM_output_2 62 k1 o2) rfl, c_Mo_output_2 60 (by omega) (by omega), rfl, fun _ => by rw [o3 k k1], h'.th 0⟩
theorem both_count (hlt : l.stackTraces = false) (h : REL S X) (x : Int32) : BOTH l zc zm a b o y_Lw_count b_Lw_count 4 hh_Lw_count [.ref (a 0), .int x, .ref o] y_Mo_count b_Mo_count 2 [.ref (b 0), .int x] S X := by
  have h' := h
  obtain ⟨u, w, P, F, T, N, C, D, M⟩ := S
  obtain ⟨⟨x1, -⟩, -, -, -, -, -, -, ⟨o1, o2, o3, o4, o5, o6, o7, o8⟩, -⟩ := h
  dsimp only at x1 o1 o4 o5 o7
  rcases pk_ix x (n := 5) (by decide) with q | q | ⟨k, k1, rfl⟩
  · have q' : x.toInt < 0 ∨ 4 < x.toInt := Or.inl (by rw [Int32.lt_iff_toInt_lt] at q; exact q)
    exact ⟨1, 0, nI 0, (u, w, P, F, T, N, C, D, M), _, by decide, lc_count_IAE (c_PM_count_x 62 hlt q') rfl, c_Mo_count_x 60 q', rfl, fun q => absurd q (by decide), h'.thr 0 1⟩
  · have q' : x.toInt < 0 ∨ 4 < x.toInt := Or.inr (by
      rw [Int32.le_iff_toInt_le] at q
      have : (nI 5).toInt = 5 := by decide +kernel
      omega)
    exact ⟨1, 0, nI 0, (u, w, P, F, T, N, C, D, M), _, by decide, lc_count_IAE (c_PM_count_x 62 hlt q') rfl, c_Mo_count_x 60 q', rfl, fun q => absurd q (by decide), h'.thr 0 1⟩
  · rcases (by omega : k = 0 ∨ k = 1 ∨ k = 2 ∨ k = 3 ∨ k = 4) with e | e | e | e | e <;> subst e
    · exact ⟨0, _, _, (u, w, P, F, T, N, C, D, M), _, by decide, lc_count_ok (c_PM_count_0 62) rfl, c_Mo_count_0 60, rfl, fun _ => by rw [o1], h'.th 0⟩
    · exact ⟨0, _, _, (u, w, P, F, T, N, C, D, M), _, by decide, lc_count_ok (c_PM_count_1 62) rfl, c_Mo_count_1 60, rfl, fun _ => by rw [o4], h'.th 0⟩
    · exact ⟨0, _, _, (u, w, P, F, T, N, C, D, M), _, by decide, lc_count_ok (c_PM_count_2 62) rfl, c_Mo_count_2 60, rfl, fun _ => by rw [o5], h'.th 0⟩
    · exact ⟨0, _, _, (u, w, P, F, T, N, C, D, M), _, by decide, lc_count_ok (c_PM_count_3 62) rfl, c_Mo_count_3 60, rfl, fun _ => by rw [o7], h'.th 0⟩
    · exact ⟨0, _, _, (u, w, P, F, T, N, C, D, M), _, by decide, lc_count_ok (c_PM_count_4 62) rfl, c_Mo_count_4 60, rfl, fun _ => by rw [x1], h'.th 0⟩
end RB
