/-! ===== the helpers of the law ===== -/
set_option maxRecDepth 100000 in
theorem lc_append_ok {l : Launch} {z : Zt} {h o b : Nat} {ws ws1 : va_W} {fs : List Value} {v : Int64} {x : Int32} {r : Int32} (hM : XC l (Gz z) h y_PM_append b_PM_append 5 (some .int) (.ref b :: [.long v, .int x]) ws (.inl (some (.int r))) ws1) (he : ws[0]? = some (b, .inr (5, fs))) : LC l z (h + 1) y_Lw_append b_Lw_append 6 hh_Lw_append [.ref b, .long v, .int x, .ref o] ws o 0 r.toInt64 ws1 := by
  refine LC.of (by decide +kernel) rfl rfl ?_
  intro p e s m below meth c ls g C hI ho hl
  have hl : lv_has ls 6 [(0, .ref b), (1, .long v), (3, .int x), (4, .ref o)] := hl
  refine lv_aload C.1 C.2.1 d_Lw_append_0 (lv_lk hl rfl) ?_
  refine lv_iconst (v := nI 0) C.1 C.2.1 d_Lw_append_2 (by decide +kernel) ?_
  refine lv_aload_n C.1 C.2.1 d_Lw_append_3 rfl (lv_lk hl rfl) ?_
  refine lv_lload_n C.1 C.2.1 d_Lw_append_4 rfl (lv_lk hl rfl) ?_
  refine lv_iload_n C.1 C.2.1 d_Lw_append_5 rfl (lv_lk hl rfl) ?_
  exact hl_call (As := [.long v, .int x]) C hI ho hM Y_PM_append k_Lw_7 rfl he rfl hl.1 (Nat.lt_succ_self _) d_Lw_append_6 d_Lw_append_9 d_Lw_append_10 d_Lw_append_11 (by decide) d_Lw_append_22 d_Lw_append_23
set_option maxRecDepth 100000 in
theorem lc_append_IAE {l : Launch} {z : Zt} {h o b : Nat} {ws ws1 : va_W} {fs : List Value} {v : Int64} {x : Int32} {r : Int64} (hM : XC l (Gz z) h y_PM_append b_PM_append 5 (some .int) (.ref b :: [.long v, .int x]) ws (.inr IAE) ws1) (he : ws[0]? = some (b, .inr (5, fs))) : LC l z (h + 1) y_Lw_append b_Lw_append 6 hh_Lw_append [.ref b, .long v, .int x, .ref o] ws o 1 r ws1 := by
  refine LC.of (by decide +kernel) rfl rfl ?_
  intro p e s m below meth c ls g C hI ho hl
  have hl : lv_has ls 6 [(0, .ref b), (1, .long v), (3, .int x), (4, .ref o)] := hl
  refine lv_aload C.1 C.2.1 d_Lw_append_0 (lv_lk hl rfl) ?_
  refine lv_iconst (v := nI 0) C.1 C.2.1 d_Lw_append_2 (by decide +kernel) ?_
  refine lv_aload_n C.1 C.2.1 d_Lw_append_3 rfl (lv_lk hl rfl) ?_
  refine lv_lload_n C.1 C.2.1 d_Lw_append_4 rfl (lv_lk hl rfl) ?_
  refine lv_iload_n C.1 C.2.1 d_Lw_append_5 rfl (lv_lk hl rfl) ?_
  have hts := C.2.2.2.2.1
  have hnc := C.2.2.2.2.2.2.2.2.2.2
  refine hl_callX (As := [.long v, .int x]) (nm := exNm) (x := ent (0, 11, 14, 13)) (pre := []) (post := [ent (0, 11, 18, 15)]) C hI ho hM Y_PM_append k_Lw_7 rfl he rfl hl.1 (Nat.lt_succ_self _) d_Lw_append_6 (tab_ent C.2.2.2.2.2.2.2.1) ?_ (hfit hts hnc (by decide +kernel) (by decide) (by decide +kernel)) (by decide) (fun H1 locs1 q k1 k2 k3 => ?_)
  · exact fun y hy => absurd hy List.not_mem_nil
  · refine lv_astore (lv' := (5, .ref q) :: [(0, .ref b), (1, .long v), (3, .int x), (4, .ref o)]) C.1 C.2.1 d_Lw_append_14 hl (by decide) rfl (fun ls hl => ?_)
    refine lv_iconst (v := nI 1) C.1 C.2.1 d_Lw_append_16 (by decide +kernel) ?_
    exact hl_ret C k1 k2 (fun h => absurd h (by decide)) k3 (by decide) (by decide) d_Lw_append_17
set_option maxRecDepth 100000 in
theorem lc_append_ISE {l : Launch} {z : Zt} {h o b : Nat} {ws ws1 : va_W} {fs : List Value} {v : Int64} {x : Int32} {r : Int64} (hM : XC l (Gz z) h y_PM_append b_PM_append 5 (some .int) (.ref b :: [.long v, .int x]) ws (.inr ISE) ws1) (he : ws[0]? = some (b, .inr (5, fs))) : LC l z (h + 1) y_Lw_append b_Lw_append 6 hh_Lw_append [.ref b, .long v, .int x, .ref o] ws o 2 r ws1 := by
  refine LC.of (by decide +kernel) rfl rfl ?_
  intro p e s m below meth c ls g C hI ho hl
  have hl : lv_has ls 6 [(0, .ref b), (1, .long v), (3, .int x), (4, .ref o)] := hl
  refine lv_aload C.1 C.2.1 d_Lw_append_0 (lv_lk hl rfl) ?_
  refine lv_iconst (v := nI 0) C.1 C.2.1 d_Lw_append_2 (by decide +kernel) ?_
  refine lv_aload_n C.1 C.2.1 d_Lw_append_3 rfl (lv_lk hl rfl) ?_
  refine lv_lload_n C.1 C.2.1 d_Lw_append_4 rfl (lv_lk hl rfl) ?_
  refine lv_iload_n C.1 C.2.1 d_Lw_append_5 rfl (lv_lk hl rfl) ?_
  have hts := C.2.2.2.2.1
  have hnc := C.2.2.2.2.2.2.2.2.2.2
  refine hl_callX (As := [.long v, .int x]) (nm := exNm) (x := ent (0, 11, 18, 15)) (pre := [ent (0, 11, 14, 13)]) (post := []) C hI ho hM Y_PM_append k_Lw_7 rfl he rfl hl.1 (Nat.lt_succ_self _) d_Lw_append_6 (tab_ent C.2.2.2.2.2.2.2.1) ?_ (hfit hts hnc (by decide +kernel) (by decide) (by decide +kernel)) (by decide) (fun H1 locs1 q k1 k2 k3 => ?_)
  · intro y hy
    simp only [List.mem_cons, List.not_mem_nil, or_false] at hy
    rcases hy with rfl <;> exact ⟨by decide, hpass hts hnc (by decide +kernel) (by decide) (by decide +kernel)⟩
  · refine lv_astore (lv' := (5, .ref q) :: [(0, .ref b), (1, .long v), (3, .int x), (4, .ref o)]) C.1 C.2.1 d_Lw_append_18 hl (by decide) rfl (fun ls hl => ?_)
    refine lv_iconst (v := nI 2) C.1 C.2.1 d_Lw_append_20 (by decide +kernel) ?_
    exact hl_ret C k1 k2 (fun h => absurd h (by decide)) k3 (by decide) (by decide) d_Lw_append_21
set_option maxRecDepth 100000 in
theorem lc_cut_ok {l : Launch} {z : Zt} {h o b : Nat} {ws ws1 : va_W} {fs : List Value} {x : Int32} {r : Int32} (hM : XC l (Gz z) h y_PM_cut b_PM_cut 2 (some .int) (.ref b :: [.int x]) ws (.inl (some (.int r))) ws1) (he : ws[0]? = some (b, .inr (5, fs))) : LC l z (h + 1) y_Lw_cut b_Lw_cut 4 hh_Lw_cut [.ref b, .int x, .ref o] ws o 0 r.toInt64 ws1 := by
  refine LC.of (by decide +kernel) rfl rfl ?_
  intro p e s m below meth c ls g C hI ho hl
  have hl : lv_has ls 4 [(0, .ref b), (1, .int x), (2, .ref o)] := hl
  refine lv_aload_n C.1 C.2.1 d_Lw_cut_0 rfl (lv_lk hl rfl) ?_
  refine lv_iconst (v := nI 0) C.1 C.2.1 d_Lw_cut_1 (by decide +kernel) ?_
  refine lv_aload_n C.1 C.2.1 d_Lw_cut_2 rfl (lv_lk hl rfl) ?_
  refine lv_iload_n C.1 C.2.1 d_Lw_cut_3 rfl (lv_lk hl rfl) ?_
  exact hl_call (As := [.int x]) C hI ho hM Y_PM_cut k_Lw_17 rfl he rfl hl.1 (Nat.lt_succ_self _) d_Lw_cut_4 d_Lw_cut_7 d_Lw_cut_8 d_Lw_cut_9 (by decide) d_Lw_cut_15 d_Lw_cut_16
set_option maxRecDepth 100000 in
theorem lc_cut_IAE {l : Launch} {z : Zt} {h o b : Nat} {ws ws1 : va_W} {fs : List Value} {x : Int32} {r : Int64} (hM : XC l (Gz z) h y_PM_cut b_PM_cut 2 (some .int) (.ref b :: [.int x]) ws (.inr IAE) ws1) (he : ws[0]? = some (b, .inr (5, fs))) : LC l z (h + 1) y_Lw_cut b_Lw_cut 4 hh_Lw_cut [.ref b, .int x, .ref o] ws o 1 r ws1 := by
  refine LC.of (by decide +kernel) rfl rfl ?_
  intro p e s m below meth c ls g C hI ho hl
  have hl : lv_has ls 4 [(0, .ref b), (1, .int x), (2, .ref o)] := hl
  refine lv_aload_n C.1 C.2.1 d_Lw_cut_0 rfl (lv_lk hl rfl) ?_
  refine lv_iconst (v := nI 0) C.1 C.2.1 d_Lw_cut_1 (by decide +kernel) ?_
  refine lv_aload_n C.1 C.2.1 d_Lw_cut_2 rfl (lv_lk hl rfl) ?_
  refine lv_iload_n C.1 C.2.1 d_Lw_cut_3 rfl (lv_lk hl rfl) ?_
  have hts := C.2.2.2.2.1
  have hnc := C.2.2.2.2.2.2.2.2.2.2
  refine hl_callX (As := [.int x]) (nm := exNm) (x := ent (0, 9, 12, 13)) (pre := []) (post := []) C hI ho hM Y_PM_cut k_Lw_17 rfl he rfl hl.1 (Nat.lt_succ_self _) d_Lw_cut_4 (tab_ent C.2.2.2.2.2.2.2.1) ?_ (hfit hts hnc (by decide +kernel) (by decide) (by decide +kernel)) (by decide) (fun H1 locs1 q k1 k2 k3 => ?_)
  · exact fun y hy => absurd hy List.not_mem_nil
  · refine lv_astore_n (lv' := (3, .ref q) :: [(0, .ref b), (1, .int x), (2, .ref o)]) C.1 C.2.1 d_Lw_cut_12 rfl hl (by decide) rfl (fun ls hl => ?_)
    refine lv_iconst (v := nI 1) C.1 C.2.1 d_Lw_cut_13 (by decide +kernel) ?_
    exact hl_ret C k1 k2 (fun h => absurd h (by decide)) k3 (by decide) (by decide) d_Lw_cut_14
set_option maxRecDepth 100000 in
theorem lc_compile_ok {l : Launch} {z : Zt} {h o b : Nat} {ws ws1 : va_W} {fs : List Value}  {r : Int32} (hM : XC l (Gz z) h y_PM_compile b_PM_compile 3 (some .int) (.ref b :: []) ws (.inl (some (.int r))) ws1) (he : ws[0]? = some (b, .inr (5, fs))) : LC l z (h + 1) y_Lw_compile b_Lw_compile 3 hh_Lw_compile [.ref b, .ref o] ws o 0 r.toInt64 ws1 := by
  refine LC.of (by decide +kernel) rfl rfl ?_
  intro p e s m below meth c ls g C hI ho hl
  have hl : lv_has ls 3 [(0, .ref b), (1, .ref o)] := hl
  refine lv_aload_n C.1 C.2.1 d_Lw_compile_0 rfl (lv_lk hl rfl) ?_
  refine lv_iconst (v := nI 0) C.1 C.2.1 d_Lw_compile_1 (by decide +kernel) ?_
  refine lv_aload_n C.1 C.2.1 d_Lw_compile_2 rfl (lv_lk hl rfl) ?_
  exact hl_call (As := []) C hI ho hM Y_PM_compile k_Lw_21 rfl he rfl hl.1 (Nat.lt_succ_self _) d_Lw_compile_3 d_Lw_compile_6 d_Lw_compile_7 d_Lw_compile_8 (by decide) d_Lw_compile_14 d_Lw_compile_15
set_option maxRecDepth 100000 in
theorem lc_compile_IAE {l : Launch} {z : Zt} {h o b : Nat} {ws ws1 : va_W} {fs : List Value}  {r : Int64} (hM : XC l (Gz z) h y_PM_compile b_PM_compile 3 (some .int) (.ref b :: []) ws (.inr IAE) ws1) (he : ws[0]? = some (b, .inr (5, fs))) : LC l z (h + 1) y_Lw_compile b_Lw_compile 3 hh_Lw_compile [.ref b, .ref o] ws o 1 r ws1 := by
  refine LC.of (by decide +kernel) rfl rfl ?_
  intro p e s m below meth c ls g C hI ho hl
  have hl : lv_has ls 3 [(0, .ref b), (1, .ref o)] := hl
  refine lv_aload_n C.1 C.2.1 d_Lw_compile_0 rfl (lv_lk hl rfl) ?_
  refine lv_iconst (v := nI 0) C.1 C.2.1 d_Lw_compile_1 (by decide +kernel) ?_
  refine lv_aload_n C.1 C.2.1 d_Lw_compile_2 rfl (lv_lk hl rfl) ?_
  have hts := C.2.2.2.2.1
  have hnc := C.2.2.2.2.2.2.2.2.2.2
  refine hl_callX (As := []) (nm := exNm) (x := ent (0, 8, 11, 13)) (pre := []) (post := []) C hI ho hM Y_PM_compile k_Lw_21 rfl he rfl hl.1 (Nat.lt_succ_self _) d_Lw_compile_3 (tab_ent C.2.2.2.2.2.2.2.1) ?_ (hfit hts hnc (by decide +kernel) (by decide) (by decide +kernel)) (by decide) (fun H1 locs1 q k1 k2 k3 => ?_)
  · exact fun y hy => absurd hy List.not_mem_nil
  · refine lv_astore_n (lv' := (2, .ref q) :: [(0, .ref b), (1, .ref o)]) C.1 C.2.1 d_Lw_compile_11 rfl hl (by decide) rfl (fun ls hl => ?_)
    refine lv_iconst (v := nI 1) C.1 C.2.1 d_Lw_compile_12 (by decide +kernel) ?_
    exact hl_ret C k1 k2 (fun h => absurd h (by decide)) k3 (by decide) (by decide) d_Lw_compile_13
set_option maxRecDepth 100000 in
theorem lc_run_ok {l : Launch} {z : Zt} {h o b : Nat} {ws ws1 : va_W} {fs : List Value}  {r : Int32} (hM : XC l (Gz z) h y_PM_run b_PM_run 1 (some .int) (.ref b :: []) ws (.inl (some (.int r))) ws1) (he : ws[0]? = some (b, .inr (5, fs))) : LC l z (h + 1) y_Lw_run b_Lw_run 3 hh_Lw_run [.ref b, .ref o] ws o 0 r.toInt64 ws1 := by
  refine LC.of (by decide +kernel) rfl rfl ?_
  intro p e s m below meth c ls g C hI ho hl
  have hl : lv_has ls 3 [(0, .ref b), (1, .ref o)] := hl
  refine lv_aload_n C.1 C.2.1 d_Lw_run_0 rfl (lv_lk hl rfl) ?_
  refine lv_iconst (v := nI 0) C.1 C.2.1 d_Lw_run_1 (by decide +kernel) ?_
  refine lv_aload_n C.1 C.2.1 d_Lw_run_2 rfl (lv_lk hl rfl) ?_
  exact hl_call (As := []) C hI ho hM Y_PM_run k_Lw_25 rfl he rfl hl.1 (Nat.lt_succ_self _) d_Lw_run_3 d_Lw_run_6 d_Lw_run_7 d_Lw_run_8 (by decide) d_Lw_run_23 d_Lw_run_24
set_option maxRecDepth 100000 in
theorem lc_run_NSE {l : Launch} {z : Zt} {h o b : Nat} {ws ws1 : va_W} {fs : List Value}  {r : Int64} (hM : XC l (Gz z) h y_PM_run b_PM_run 1 (some .int) (.ref b :: []) ws (.inr NSE) ws1) (he : ws[0]? = some (b, .inr (5, fs))) : LC l z (h + 1) y_Lw_run b_Lw_run 3 hh_Lw_run [.ref b, .ref o] ws o 1 r ws1 := by
  refine LC.of (by decide +kernel) rfl rfl ?_
  intro p e s m below meth c ls g C hI ho hl
  have hl : lv_has ls 3 [(0, .ref b), (1, .ref o)] := hl
  refine lv_aload_n C.1 C.2.1 d_Lw_run_0 rfl (lv_lk hl rfl) ?_
  refine lv_iconst (v := nI 0) C.1 C.2.1 d_Lw_run_1 (by decide +kernel) ?_
  refine lv_aload_n C.1 C.2.1 d_Lw_run_2 rfl (lv_lk hl rfl) ?_
  have hts := C.2.2.2.2.1
  have hnc := C.2.2.2.2.2.2.2.2.2.2
  refine hl_callX (As := []) (nm := exNm) (x := ent (0, 8, 11, 28)) (pre := []) (post := [ent (0, 8, 14, 30), ent (0, 8, 17, 15), ent (0, 8, 20, 32)]) C hI ho hM Y_PM_run k_Lw_25 rfl he rfl hl.1 (Nat.lt_succ_self _) d_Lw_run_3 (tab_ent C.2.2.2.2.2.2.2.1) ?_ (hfit hts hnc (by decide +kernel) (by decide) (by decide +kernel)) (by decide) (fun H1 locs1 q k1 k2 k3 => ?_)
  · exact fun y hy => absurd hy List.not_mem_nil
  · refine lv_astore_n (lv' := (2, .ref q) :: [(0, .ref b), (1, .ref o)]) C.1 C.2.1 d_Lw_run_11 rfl hl (by decide) rfl (fun ls hl => ?_)
    refine lv_iconst (v := nI 1) C.1 C.2.1 d_Lw_run_12 (by decide +kernel) ?_
    exact hl_ret C k1 k2 (fun h => absurd h (by decide)) k3 (by decide) (by decide) d_Lw_run_13
set_option maxRecDepth 100000 in
theorem lc_run_ARE {l : Launch} {z : Zt} {h o b : Nat} {ws ws1 : va_W} {fs : List Value}  {r : Int64} (hM : XC l (Gz z) h y_PM_run b_PM_run 1 (some .int) (.ref b :: []) ws (.inr ARE) ws1) (he : ws[0]? = some (b, .inr (5, fs))) : LC l z (h + 1) y_Lw_run b_Lw_run 3 hh_Lw_run [.ref b, .ref o] ws o 2 r ws1 := by
  refine LC.of (by decide +kernel) rfl rfl ?_
  intro p e s m below meth c ls g C hI ho hl
  have hl : lv_has ls 3 [(0, .ref b), (1, .ref o)] := hl
  refine lv_aload_n C.1 C.2.1 d_Lw_run_0 rfl (lv_lk hl rfl) ?_
  refine lv_iconst (v := nI 0) C.1 C.2.1 d_Lw_run_1 (by decide +kernel) ?_
  refine lv_aload_n C.1 C.2.1 d_Lw_run_2 rfl (lv_lk hl rfl) ?_
  have hts := C.2.2.2.2.1
  have hnc := C.2.2.2.2.2.2.2.2.2.2
  refine hl_callX (As := []) (nm := exNm) (x := ent (0, 8, 14, 30)) (pre := [ent (0, 8, 11, 28)]) (post := [ent (0, 8, 17, 15), ent (0, 8, 20, 32)]) C hI ho hM Y_PM_run k_Lw_25 rfl he rfl hl.1 (Nat.lt_succ_self _) d_Lw_run_3 (tab_ent C.2.2.2.2.2.2.2.1) ?_ (hfit hts hnc (by decide +kernel) (by decide) (by decide +kernel)) (by decide) (fun H1 locs1 q k1 k2 k3 => ?_)
  · intro y hy
    simp only [List.mem_cons, List.not_mem_nil, or_false] at hy
    rcases hy with rfl <;> exact ⟨by decide, hpass hts hnc (by decide +kernel) (by decide) (by decide +kernel)⟩
  · refine lv_astore_n (lv' := (2, .ref q) :: [(0, .ref b), (1, .ref o)]) C.1 C.2.1 d_Lw_run_14 rfl hl (by decide) rfl (fun ls hl => ?_)
    refine lv_iconst (v := nI 2) C.1 C.2.1 d_Lw_run_15 (by decide +kernel) ?_
    exact hl_ret C k1 k2 (fun h => absurd h (by decide)) k3 (by decide) (by decide) d_Lw_run_16
set_option maxRecDepth 100000 in
theorem lc_run_ISE {l : Launch} {z : Zt} {h o b : Nat} {ws ws1 : va_W} {fs : List Value}  {r : Int64} (hM : XC l (Gz z) h y_PM_run b_PM_run 1 (some .int) (.ref b :: []) ws (.inr ISE) ws1) (he : ws[0]? = some (b, .inr (5, fs))) : LC l z (h + 1) y_Lw_run b_Lw_run 3 hh_Lw_run [.ref b, .ref o] ws o 3 r ws1 := by
  refine LC.of (by decide +kernel) rfl rfl ?_
  intro p e s m below meth c ls g C hI ho hl
  have hl : lv_has ls 3 [(0, .ref b), (1, .ref o)] := hl
  refine lv_aload_n C.1 C.2.1 d_Lw_run_0 rfl (lv_lk hl rfl) ?_
  refine lv_iconst (v := nI 0) C.1 C.2.1 d_Lw_run_1 (by decide +kernel) ?_
  refine lv_aload_n C.1 C.2.1 d_Lw_run_2 rfl (lv_lk hl rfl) ?_
  have hts := C.2.2.2.2.1
  have hnc := C.2.2.2.2.2.2.2.2.2.2
  refine hl_callX (As := []) (nm := exNm) (x := ent (0, 8, 17, 15)) (pre := [ent (0, 8, 11, 28), ent (0, 8, 14, 30)]) (post := [ent (0, 8, 20, 32)]) C hI ho hM Y_PM_run k_Lw_25 rfl he rfl hl.1 (Nat.lt_succ_self _) d_Lw_run_3 (tab_ent C.2.2.2.2.2.2.2.1) ?_ (hfit hts hnc (by decide +kernel) (by decide) (by decide +kernel)) (by decide) (fun H1 locs1 q k1 k2 k3 => ?_)
  · intro y hy
    simp only [List.mem_cons, List.not_mem_nil, or_false] at hy
    rcases hy with rfl | rfl <;> exact ⟨by decide, hpass hts hnc (by decide +kernel) (by decide) (by decide +kernel)⟩
  · refine lv_astore_n (lv' := (2, .ref q) :: [(0, .ref b), (1, .ref o)]) C.1 C.2.1 d_Lw_run_17 rfl hl (by decide) rfl (fun ls hl => ?_)
    refine lv_iconst (v := nI 3) C.1 C.2.1 d_Lw_run_18 (by decide +kernel) ?_
    exact hl_ret C k1 k2 (fun h => absurd h (by decide)) k3 (by decide) (by decide) d_Lw_run_19
set_option maxRecDepth 100000 in
theorem lc_run_IOE {l : Launch} {z : Zt} {h o b : Nat} {ws ws1 : va_W} {fs : List Value}  {r : Int64} (hM : XC l (Gz z) h y_PM_run b_PM_run 1 (some .int) (.ref b :: []) ws (.inr IOE) ws1) (he : ws[0]? = some (b, .inr (5, fs))) : LC l z (h + 1) y_Lw_run b_Lw_run 3 hh_Lw_run [.ref b, .ref o] ws o 4 r ws1 := by
  refine LC.of (by decide +kernel) rfl rfl ?_
  intro p e s m below meth c ls g C hI ho hl
  have hl : lv_has ls 3 [(0, .ref b), (1, .ref o)] := hl
  refine lv_aload_n C.1 C.2.1 d_Lw_run_0 rfl (lv_lk hl rfl) ?_
  refine lv_iconst (v := nI 0) C.1 C.2.1 d_Lw_run_1 (by decide +kernel) ?_
  refine lv_aload_n C.1 C.2.1 d_Lw_run_2 rfl (lv_lk hl rfl) ?_
  have hts := C.2.2.2.2.1
  have hnc := C.2.2.2.2.2.2.2.2.2.2
  refine hl_callX (As := []) (nm := exNm) (x := ent (0, 8, 20, 32)) (pre := [ent (0, 8, 11, 28), ent (0, 8, 14, 30), ent (0, 8, 17, 15)]) (post := []) C hI ho hM Y_PM_run k_Lw_25 rfl he rfl hl.1 (Nat.lt_succ_self _) d_Lw_run_3 (tab_ent C.2.2.2.2.2.2.2.1) ?_ (hfit hts hnc (by decide +kernel) (by decide) (by decide +kernel)) (by decide) (fun H1 locs1 q k1 k2 k3 => ?_)
  · intro y hy
    simp only [List.mem_cons, List.not_mem_nil, or_false] at hy
    rcases hy with rfl | rfl | rfl <;> exact ⟨by decide, hpass hts hnc (by decide +kernel) (by decide) (by decide +kernel)⟩
  · refine lv_astore_n (lv' := (2, .ref q) :: [(0, .ref b), (1, .ref o)]) C.1 C.2.1 d_Lw_run_20 rfl hl (by decide) rfl (fun ls hl => ?_)
    refine lv_iconst (v := nI 4) C.1 C.2.1 d_Lw_run_21 (by decide +kernel) ?_
    exact hl_ret C k1 k2 (fun h => absurd h (by decide)) k3 (by decide) (by decide) d_Lw_run_22
set_option maxRecDepth 100000 in
theorem lc_output_ok {l : Launch} {z : Zt} {h o b : Nat} {ws ws1 : va_W} {fs : List Value} {x : Int32} {r : Int32} (hM : XC l (Gz z) h y_PM_output b_PM_output 2 (some .int) (.ref b :: [.int x]) ws (.inl (some (.int r))) ws1) (he : ws[0]? = some (b, .inr (5, fs))) : LC l z (h + 1) y_Lw_output b_Lw_output 4 hh_Lw_output [.ref b, .int x, .ref o] ws o 0 r.toInt64 ws1 := by
  refine LC.of (by decide +kernel) rfl rfl ?_
  intro p e s m below meth c ls g C hI ho hl
  have hl : lv_has ls 4 [(0, .ref b), (1, .int x), (2, .ref o)] := hl
  refine lv_aload_n C.1 C.2.1 d_Lw_output_0 rfl (lv_lk hl rfl) ?_
  refine lv_iconst (v := nI 0) C.1 C.2.1 d_Lw_output_1 (by decide +kernel) ?_
  refine lv_aload_n C.1 C.2.1 d_Lw_output_2 rfl (lv_lk hl rfl) ?_
  refine lv_iload_n C.1 C.2.1 d_Lw_output_3 rfl (lv_lk hl rfl) ?_
  exact hl_call (As := [.int x]) C hI ho hM Y_PM_output k_Lw_34 rfl he rfl hl.1 (Nat.lt_succ_self _) d_Lw_output_4 d_Lw_output_7 d_Lw_output_8 d_Lw_output_9 (by decide) d_Lw_output_15 d_Lw_output_16
set_option maxRecDepth 100000 in
theorem lc_output_NSE {l : Launch} {z : Zt} {h o b : Nat} {ws ws1 : va_W} {fs : List Value} {x : Int32} {r : Int64} (hM : XC l (Gz z) h y_PM_output b_PM_output 2 (some .int) (.ref b :: [.int x]) ws (.inr NSE) ws1) (he : ws[0]? = some (b, .inr (5, fs))) : LC l z (h + 1) y_Lw_output b_Lw_output 4 hh_Lw_output [.ref b, .int x, .ref o] ws o 1 r ws1 := by
  refine LC.of (by decide +kernel) rfl rfl ?_
  intro p e s m below meth c ls g C hI ho hl
  have hl : lv_has ls 4 [(0, .ref b), (1, .int x), (2, .ref o)] := hl
  refine lv_aload_n C.1 C.2.1 d_Lw_output_0 rfl (lv_lk hl rfl) ?_
  refine lv_iconst (v := nI 0) C.1 C.2.1 d_Lw_output_1 (by decide +kernel) ?_
  refine lv_aload_n C.1 C.2.1 d_Lw_output_2 rfl (lv_lk hl rfl) ?_
  refine lv_iload_n C.1 C.2.1 d_Lw_output_3 rfl (lv_lk hl rfl) ?_
  have hts := C.2.2.2.2.1
  have hnc := C.2.2.2.2.2.2.2.2.2.2
  refine hl_callX (As := [.int x]) (nm := exNm) (x := ent (0, 9, 12, 28)) (pre := []) (post := []) C hI ho hM Y_PM_output k_Lw_34 rfl he rfl hl.1 (Nat.lt_succ_self _) d_Lw_output_4 (tab_ent C.2.2.2.2.2.2.2.1) ?_ (hfit hts hnc (by decide +kernel) (by decide) (by decide +kernel)) (by decide) (fun H1 locs1 q k1 k2 k3 => ?_)
  · exact fun y hy => absurd hy List.not_mem_nil
  · refine lv_astore_n (lv' := (3, .ref q) :: [(0, .ref b), (1, .int x), (2, .ref o)]) C.1 C.2.1 d_Lw_output_12 rfl hl (by decide) rfl (fun ls hl => ?_)
    refine lv_iconst (v := nI 1) C.1 C.2.1 d_Lw_output_13 (by decide +kernel) ?_
    exact hl_ret C k1 k2 (fun h => absurd h (by decide)) k3 (by decide) (by decide) d_Lw_output_14
set_option maxRecDepth 100000 in
theorem lc_count_ok {l : Launch} {z : Zt} {h o b : Nat} {ws ws1 : va_W} {fs : List Value} {x : Int32} {r : Int32} (hM : XC l (Gz z) h y_PM_count b_PM_count 2 (some .int) (.ref b :: [.int x]) ws (.inl (some (.int r))) ws1) (he : ws[0]? = some (b, .inr (5, fs))) : LC l z (h + 1) y_Lw_count b_Lw_count 4 hh_Lw_count [.ref b, .int x, .ref o] ws o 0 r.toInt64 ws1 := by
  refine LC.of (by decide +kernel) rfl rfl ?_
  intro p e s m below meth c ls g C hI ho hl
  have hl : lv_has ls 4 [(0, .ref b), (1, .int x), (2, .ref o)] := hl
  refine lv_aload_n C.1 C.2.1 d_Lw_count_0 rfl (lv_lk hl rfl) ?_
  refine lv_iconst (v := nI 0) C.1 C.2.1 d_Lw_count_1 (by decide +kernel) ?_
  refine lv_aload_n C.1 C.2.1 d_Lw_count_2 rfl (lv_lk hl rfl) ?_
  refine lv_iload_n C.1 C.2.1 d_Lw_count_3 rfl (lv_lk hl rfl) ?_
  exact hl_call (As := [.int x]) C hI ho hM Y_PM_count k_Lw_37 rfl he rfl hl.1 (Nat.lt_succ_self _) d_Lw_count_4 d_Lw_count_7 d_Lw_count_8 d_Lw_count_9 (by decide) d_Lw_count_15 d_Lw_count_16
set_option maxRecDepth 100000 in
theorem lc_count_IAE {l : Launch} {z : Zt} {h o b : Nat} {ws ws1 : va_W} {fs : List Value} {x : Int32} {r : Int64} (hM : XC l (Gz z) h y_PM_count b_PM_count 2 (some .int) (.ref b :: [.int x]) ws (.inr IAE) ws1) (he : ws[0]? = some (b, .inr (5, fs))) : LC l z (h + 1) y_Lw_count b_Lw_count 4 hh_Lw_count [.ref b, .int x, .ref o] ws o 1 r ws1 := by
  refine LC.of (by decide +kernel) rfl rfl ?_
  intro p e s m below meth c ls g C hI ho hl
  have hl : lv_has ls 4 [(0, .ref b), (1, .int x), (2, .ref o)] := hl
  refine lv_aload_n C.1 C.2.1 d_Lw_count_0 rfl (lv_lk hl rfl) ?_
  refine lv_iconst (v := nI 0) C.1 C.2.1 d_Lw_count_1 (by decide +kernel) ?_
  refine lv_aload_n C.1 C.2.1 d_Lw_count_2 rfl (lv_lk hl rfl) ?_
  refine lv_iload_n C.1 C.2.1 d_Lw_count_3 rfl (lv_lk hl rfl) ?_
  have hts := C.2.2.2.2.1
  have hnc := C.2.2.2.2.2.2.2.2.2.2
  refine hl_callX (As := [.int x]) (nm := exNm) (x := ent (0, 9, 12, 13)) (pre := []) (post := []) C hI ho hM Y_PM_count k_Lw_37 rfl he rfl hl.1 (Nat.lt_succ_self _) d_Lw_count_4 (tab_ent C.2.2.2.2.2.2.2.1) ?_ (hfit hts hnc (by decide +kernel) (by decide) (by decide +kernel)) (by decide) (fun H1 locs1 q k1 k2 k3 => ?_)
  · exact fun y hy => absurd hy List.not_mem_nil
  · refine lv_astore_n (lv' := (3, .ref q) :: [(0, .ref b), (1, .int x), (2, .ref o)]) C.1 C.2.1 d_Lw_count_12 rfl hl (by decide) rfl (fun ls hl => ?_)
    refine lv_iconst (v := nI 1) C.1 C.2.1 d_Lw_count_13 (by decide +kernel) ?_
    exact hl_ret C k1 k2 (fun h => absurd h (by decide)) k3 (by decide) (by decide) d_Lw_count_14
