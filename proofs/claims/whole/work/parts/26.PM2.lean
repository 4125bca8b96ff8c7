/-! ===== compile: the two codes change places ===== -/
theorem V.kiw {p : Program} {l : Launch} {e : Env} {R : Room} {s : State} {m : MethodId} {args : Array Value} {below : List Frame} {meth : Method} {c : Code} {G : Gm} {nL cells slots : Nat} {Q : State → Prop} {ws ws' : va_W} {pc : Nat} {lv : List (Nat × Value)} {sk : List Value} (h : ∀ U H, KI G ws U H → KI G ws' U H) (k : V p l e R s m args below meth c G nL cells slots Q ws' pc lv sk) : V p l e R s m args below meth c G nL cells slots Q ws pc lv sk := fun H locs ls a b c => k H locs ls (h _ _ a) b c
theorem KI.perm {G : Gm} {ws ws' : va_W} (f g : Nat → Nat) (hf : ∀ k, ws'[k]? = ws[f k]?) (hg : ∀ k, ws[k]? = ws'[g k]?) (hi : ∀ i, g (f i) = i) : ∀ U H, KI G ws U H → KI G ws' U H := by
  intro U H h
  obtain ⟨h1, h2, ⟨h3, h4⟩, h5⟩ := h
  refine ⟨h1, fun k q hq => h2 (f k) q ((hf k) ▸ hq), ⟨fun i j p q hp hq e => ?_, fun k q hq => h4 (f k) q ((hf k) ▸ hq)⟩, fun q hq => ?_⟩
  · have := h3 (f i) (f j) p q ((hf i) ▸ hp) ((hf j) ▸ hq) e
    rw [← hi i, ← hi j, this]
  · obtain ⟨k, e, he⟩ := h5 q hq
    exact ⟨g k, e, (hg k) ▸ he⟩
def swp (k : Nat) : Nat := if k < 19 then k else if k < 26 then k + 7 else if k < 33 then k - 7 else k
theorem swp_swp (k : Nat) : swp (swp k) = k := by
  unfold swp
  repeat' split
  all_goals omega
/-- the cells with any two codes named -/
def cwx (z : Zt) (a u w : Nat → Nat) (x y : Nat) (P : Pm) (F : Int32) (T : Tk) (N : Nm) (C D : Co) (M : Mc) : va_W := [
  (a 0, .inr (5, [.ref (a 1), .int (nI P.2.1), .ref (a 2), .ref (a 13), .int (bI P.2.2)])),
  (a 1, .inl (z.2.1.2.2.1, 300, .inl (fun j => nI (P.1 j)))),
  (a 2, .inr (1, [.ref (a 3), .ref (a 7), .ref x, .int F])),
  (a 3, .inr (4, [.ref (a 4), .ref (a 5), .ref (a 6), .ref T.2.2.2.1, .int (nI T.2.2.2.2.1), .int (nI T.2.2.2.2.2.1), .int (nI T.2.2.2.2.2.2)])),
  (a 4, .inl (z.2.1.2.2.2, 151, .inr (.inr (.inr (.inr (fun j => (T.1 j).map (ek z))))))),
  (a 5, .inl (z.2.1.1, 151, .inl (fun j => nI (T.2.1 j)))),
  (a 6, .inl (z.2.1.2.1, 151, .inr (.inl T.2.2.1))),
  (a 7, .inr (3, [.ref (a 8), .ref (a 9), .ref (a 10), .ref (a 11), .ref (a 12), .int (nI N.2.2.2.2.2.1), .int (nI N.2.2.2.2.2.2.1), .int (nI N.2.2.2.2.2.2.2.1), .int (nI N.2.2.2.2.2.2.2.2)])),
  (a 8, .inl (z.2.1.2.1, 18, .inr (.inl N.1))),
  (a 9, .inl (z.2.1.1, 18, .inl (fun j => nI (N.2.1 j)))),
  (a 10, .inl (z.2.1.1, 18, .inl (fun j => nI (N.2.2.1 j)))),
  (a 11, .inl (z.2.1.1, 18, .inl (fun j => nI (N.2.2.2.1 j)))),
  (a 12, .inl (z.2.1.1, 4, .inl (fun j => nI (N.2.2.2.2.1 j)))),
  (a 13, .inr (2, [.ref y, .ref (a 14), .ref (a 15), .ref (a 16), .ref (a 17), .int (nI M.2.2.2.2.1), .int (nI M.2.2.2.2.2.1), .int (nI M.2.2.2.2.2.2.1), .ref (a 18), .int (nI M.2.2.2.2.2.2.2.2.1), .int (nI M.2.2.2.2.2.2.2.2.2.1), .int (nI M.2.2.2.2.2.2.2.2.2.2.1), .int (nI M.2.2.2.2.2.2.2.2.2.2.2)])),
  (a 14, .inl (z.2.1.1, 132, .inl M.1)),
  (a 15, .inl (z.2.1.1, 11, .inl (fun j => nI (M.2.1 j)))),
  (a 16, .inl (z.2.1.1, 11, .inl (fun j => nI (M.2.2.1 j)))),
  (a 17, .inl (z.2.1.1, 21, .inl M.2.2.2.1)),
  (a 18, .inl (z.2.1.1, 32, .inl M.2.2.2.2.2.2.2.1)),
  (u 0, .inr (0, [.ref (u 1), .ref (u 2), .ref (u 3), .ref (u 4), .ref (u 5), .ref (u 6), .int (nI C.2.2.2.2.2.2.1), .int (nI C.2.2.2.2.2.2.2)])),
  (u 1, .inl (z.2.1.1, 300, .inl (fun j => nI (C.1 j)))),
  (u 2, .inl (z.2.1.1, 300, .inl (fun j => nI (C.2.1 j)))),
  (u 3, .inl (z.2.1.1, 300, .inl (fun j => nI (C.2.2.1 j)))),
  (u 4, .inl (z.2.1.1, 6, .inl (fun j => nI (C.2.2.2.1 j)))),
  (u 5, .inl (z.2.1.1, 6, .inl (fun j => nI (C.2.2.2.2.1 j)))),
  (u 6, .inl (z.2.1.1, 6, .inl (fun j => nI (C.2.2.2.2.2.1 j)))),
  (w 0, .inr (0, [.ref (w 1), .ref (w 2), .ref (w 3), .ref (w 4), .ref (w 5), .ref (w 6), .int (nI D.2.2.2.2.2.2.1), .int (nI D.2.2.2.2.2.2.2)])),
  (w 1, .inl (z.2.1.1, 300, .inl (fun j => nI (D.1 j)))),
  (w 2, .inl (z.2.1.1, 300, .inl (fun j => nI (D.2.1 j)))),
  (w 3, .inl (z.2.1.1, 300, .inl (fun j => nI (D.2.2.1 j)))),
  (w 4, .inl (z.2.1.1, 6, .inl (fun j => nI (D.2.2.2.1 j)))),
  (w 5, .inl (z.2.1.1, 6, .inl (fun j => nI (D.2.2.2.2.1 j)))),
  (w 6, .inl (z.2.1.1, 6, .inl (fun j => nI (D.2.2.2.2.2.1 j))))]
theorem cwx_swap {z : Zt} {a u w : Nat → Nat} {P : Pm} {F : Int32} {T : Tk} {N : Nm} {C D : Co} {M : Mc} (k : Nat) : (cw z a w u P F T N D C M)[k]? = (cwx z a u w (w 0) (u 0) P F T N C D M)[swp k]? := by
  match k with
  | 0 => rfl
  | 1 => rfl
  | 2 => rfl
  | 3 => rfl
  | 4 => rfl
  | 5 => rfl
  | 6 => rfl
  | 7 => rfl
  | 8 => rfl
  | 9 => rfl
  | 10 => rfl
  | 11 => rfl
  | 12 => rfl
  | 13 => rfl
  | 14 => rfl
  | 15 => rfl
  | 16 => rfl
  | 17 => rfl
  | 18 => rfl
  | 19 => rfl
  | 20 => rfl
  | 21 => rfl
  | 22 => rfl
  | 23 => rfl
  | 24 => rfl
  | 25 => rfl
  | 26 => rfl
  | 27 => rfl
  | 28 => rfl
  | 29 => rfl
  | 30 => rfl
  | 31 => rfl
  | 32 => rfl
  | k + 33 =>
    rw [show swp (k + 33) = k + 33 by unfold swp; rw [if_neg (by omega), if_neg (by omega), if_neg (by omega)]]
    rfl
theorem cwx_ki {z : Zt} {a u w : Nat → Nat} {P : Pm} {F : Int32} {T : Tk} {N : Nm} {C D : Co} {M : Mc} {G : Gm} : ∀ U H, KI G (cwx z a u w (w 0) (u 0) P F T N C D M) U H → KI G (cw z a w u P F T N D C M) U H :=
  KI.perm swp swp cwx_swap (fun k => by rw [cwx_swap, swp_swp]) swp_swp
set_option maxHeartbeats 4000000 in
set_option maxRecDepth 100000 in
theorem c_PM_compile_no {l : Launch} {z : Zt} {a u w : Nat → Nat} {P : Pm} {F : Int32} {T : Tk} {N : Nm} {C D : Co} {M : Mc} {m : Nat} (h : Nat) (hlt : l.stackTraces = false) (hL : P.2.1 ≤ 300) (hP : ∀ j, P.1 j < 2 ^ 16) (t : TkOk (tk_all P.1 T (a 1) P.2.1) m) (o : Ok m (cp_s0 N C)) {q : Nat} {S1 : CS} (hres : cp_all (tk_all P.1 T (a 1) P.2.1) (cp_s0 N C) = (.inl q, S1)) : XC l (Gz z) (h + 61) y_PM_compile b_PM_compile 3 (some .int) [.ref (a 0)] (cw z a u w P F T N C D M) (.inr IAE) (cw z a u w P (nI q) (tk_at (tk_all P.1 T (a 1) P.2.1) S1.1) S1.2.1 S1.2.2 D M) := by
  have q := c_Cp_translate (l := l) (z := z) (a := a) (u := u) (w := w) (P := P) (F := F) (T := T) (N := N) (C := C) (D := D) (M := M) (m := m) (L := P.2.1) h hlt hL hP t o hres
  refine XC.ofV (by decide +kernel) rfl ?_
  intro p e s m9 below meth c X hnm
  refine V.lvs (lv' := [(0, .ref (a 0))]) rfl ?_
  refine V.aload_n X d_PM_compile_0 rfl ?_
  refine g_PM_compiler X k_PM_20 d_PM_compile_1 ?_
  refine V.aload_n X d_PM_compile_4 rfl ?_
  refine g_PM_text X k_PM_9 d_PM_compile_5 ?_
  refine V.aload_n X d_PM_compile_8 rfl ?_
  refine g_PM_length X k_PM_13 d_PM_compile_9 ?_
  exact V.callVX X q Y_Cp_translate k_PM_49 2 rfl rfl rfl rfl rfl (Rok.lt (by omega)) d_PM_compile_12 rfl rfl
set_option maxHeartbeats 4000000 in
set_option maxRecDepth 100000 in
theorem c_PM_compile_ok {l : Launch} {z : Zt} {a u w : Nat → Nat} {P : Pm} {F : Int32} {T : Tk} {N : Nm} {C D : Co} {M : Mc} {m : Nat} (h : Nat) (hlt : l.stackTraces = false) (hL : P.2.1 ≤ 300) (hP : ∀ j, P.1 j < 2 ^ 16) (t : TkOk (tk_all P.1 T (a 1) P.2.1) m) (o : Ok m (cp_s0 N C)) {v : Nat} {S1 : CS} (hres : cp_all (tk_all P.1 T (a 1) P.2.1) (cp_s0 N C) = (.inr v, S1)) : XC l (Gz z) (h + 61) y_PM_compile b_PM_compile 3 (some .int) [.ref (a 0)] (cw z a u w P F T N C D M) (.inl (some (.int (nI v)))) (cw z a w u (P.1, P.2.1, true) (-1) (tk_at (tk_all P.1 T (a 1) P.2.1) S1.1) S1.2.1 D S1.2.2 M) := by
  have q := c_Cp_translate (l := l) (z := z) (a := a) (u := u) (w := w) (P := P) (F := F) (T := T) (N := N) (C := C) (D := D) (M := M) (m := m) (L := P.2.1) h hlt hL hP t o hres
  refine XC.ofV (by decide +kernel) rfl ?_
  intro p e s m9 below meth c X hnm
  refine V.lvs (lv' := [(0, .ref (a 0))]) rfl ?_
  refine V.aload_n X d_PM_compile_0 rfl ?_
  refine g_PM_compiler X k_PM_20 d_PM_compile_1 ?_
  refine V.aload_n X d_PM_compile_4 rfl ?_
  refine g_PM_text X k_PM_9 d_PM_compile_5 ?_
  refine V.aload_n X d_PM_compile_8 rfl ?_
  refine g_PM_length X k_PM_13 d_PM_compile_9 ?_
  refine V.callV1 X q Y_Cp_translate k_PM_49 2 rfl rfl rfl rfl rfl (Rok.lt (by omega)) d_PM_compile_12 ?_
  refine V.istore_n (lv' := [(0, _), (1, _)]) X d_PM_compile_15 (by decide) rfl ?_
  refine V.aload_n X d_PM_compile_16 rfl ?_
  refine g_PM_machine X k_PM_27 d_PM_compile_17 ?_
  refine g_Mc_program X k_PM_53 d_PM_compile_20 ?_
  refine V.astore_n (lv' := [(0, _), (1, _), (2, _)]) X d_PM_compile_23 (by decide) rfl ?_
  refine V.aload_n X d_PM_compile_24 rfl ?_
  refine g_PM_machine X k_PM_27 d_PM_compile_25 ?_
  refine V.aload_n X d_PM_compile_28 rfl ?_
  refine g_PM_compiler X k_PM_20 d_PM_compile_29 ?_
  refine g_Cp_code X k_PM_57 d_PM_compile_32 ?_
  refine V.put (ws' := cwx z a u w (u 0) (u 0) P (-1) (tk_at (tk_all P.1 T (a 1) P.2.1) S1.1) S1.2.1 S1.2.2 D M) (ty := .object "PascalMachine$Code") X in_Mc t_Mc t_Mc_ok n_Mc 13 rfl rfl 0 (by decide) k_PM_53 rfl (by decide +kernel) rfl rfl (Nat.le_of_ble_eq_true rfl) rfl d_PM_compile_35 ?_
  refine V.aload_n X d_PM_compile_38 rfl ?_
  refine V.get X in_PM 0 rfl rfl 2 (by decide) k_PM_20 rfl d_PM_compile_39 ?_
  refine V.aload_n X d_PM_compile_42 rfl ?_
  refine V.put (ws' := cwx z a u w (w 0) (u 0) P (-1) (tk_at (tk_all P.1 T (a 1) P.2.1) S1.1) S1.2.1 S1.2.2 D M) (ty := .object "PascalMachine$Code") X in_Cp t_Cp t_Cp_ok n_Cp 2 rfl rfl 2 (by decide) k_PM_57 rfl (by decide +kernel) rfl rfl (Nat.le_of_ble_eq_true rfl) rfl d_PM_compile_43 ?_
  refine V.kiw cwx_ki ?_
  refine V.aload_n X d_PM_compile_46 rfl ?_
  refine V.iconst (v := nI 1) X d_PM_compile_47 (by decide +kernel) ?_
  refine p_PM_hasProgram (x := true) X k_PM_31 d_PM_compile_48 ?_
  refine V.iload_n X d_PM_compile_51 rfl ?_
  exact V.iret X d_PM_compile_52 rfl rfl
