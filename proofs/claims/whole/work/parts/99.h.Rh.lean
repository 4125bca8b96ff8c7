/-! ===== the law's loop, whole ===== -/
theorem len4 {L : Nat} (hL : L ≤ 2048) : (Int32.ofNat L - nI 4).toInt = (L : Int) - 4 := by
  rw [Int32.toInt_sub, Int32.toInt_ofNat_of_lt (show L < 2 ^ 31 by omega), show (nI 4).toInt = 4 from by decide +kernel]
  exact Int.bmod_eq_of_le (by omega) (by omega)
set_option maxHeartbeats 4000000 in
set_option maxRecDepth 100000 in
theorem law_loop {p : Program} {l : Launch} {e : Env} {s : State} {m : MethodId} {below : List Frame} {meth : Method} {c : Code} {zc zm : Zt} {a b : Nat → Nat} {o b0 L : Nat} {xs : Nat → Int32} (hlt : l.stackTraces = false) (L0 : LX p l s m #[Value.ref b0] c zc zm o) (hr : meth.sig.returnType = ret) (hlocks : meth.locks = false) (hX : va_X b0 L xs s s.heap) (hbl : b0 < s.heap.size) (hL : L ≤ 2048) :
    ∀ (n i : Nat) (S : CST) (X : MS) (g : Nat → Int64) (H : Heap) (locs : List Loc) (ls : Array Slot), L < i + 4 * n → i ≤ 2048 → REL S X → LI s zc zm a b o S X g H → va_S (NF s) s.heap H locs → lv_has ls 7 [(0, .ref b0), (1, .ref (a 0)), (2, .ref (b 0)), (3, .ref o), (4, .int (nI i))] → W p l e room_1 s m #[Value.ref b0] below meth c H locs (1000 + i) (10000 + 6 * i) (lw_Z below #[Value.ref b0] s) (F0 m 23 ls []) := by
  have hx := L0.1.1
  have hb := L0.1.2.1
  have hbA : ¬ NF s b0 := Nat.not_le.mpr hbl
  intro n
  induction n with
  | zero =>
    intro i S X g H locs ls hn hi hR hI hS hlv
    refine lv_iload hx hb d_Lw_law_23 (lv_lk hlv rfl) ?_
    refine lv_aload_n hx hb d_Lw_law_25 rfl (lv_lk hlv rfl) ?_
    refine va_slen hx hb hX hbl hbA hS d_Lw_law_26 ?_
    refine lv_iconst (v := nI 4) hx hb d_Lw_law_27 (by decide +kernel) ?_
    refine lv_isub hx hb d_Lw_law_28 ?_
    refine lv_icmp_gt (tgt := 455) hx hb d_Lw_law_29 (by decide) (fun _ => ?_) (fun h => absurd ?_ h)
    · refine lv_iconst (v := 1) hx hb d_Lw_law_455 (by decide +kernel) ?_
      refine va_forget (fun q hq => hS.2.2 q hq) ?_
      refine W.widen (k := 601024) (n := 7293034) (by omega) (by omega) ?_
      exact lw_ret hx hb hr hlocks d_Lw_law_456
    · rw [Int32.lt_iff_toInt_lt, len4 hL, show (nI i).toInt = (i : Int) from Int32.toInt_ofNat_of_lt (by omega)]
      omega
  | succ n ih =>
    intro i S X g H locs ls hn hi hR hI hS hlv
    refine lv_iload hx hb d_Lw_law_23 (lv_lk hlv rfl) ?_
    refine lv_aload_n hx hb d_Lw_law_25 rfl (lv_lk hlv rfl) ?_
    refine va_slen hx hb hX hbl hbA hS d_Lw_law_26 ?_
    refine lv_iconst (v := nI 4) hx hb d_Lw_law_27 (by decide +kernel) ?_
    refine lv_isub hx hb d_Lw_law_28 ?_
    refine lv_icmp_gt (tgt := 455) hx hb d_Lw_law_29 (by decide) (fun _ => ?_) (fun h => ?_)
    · refine lv_iconst (v := 1) hx hb d_Lw_law_455 (by decide +kernel) ?_
      refine va_forget (fun q hq => hS.2.2 q hq) ?_
      refine W.widen (k := 601024) (n := 7293034) (by omega) (by omega) ?_
      exact lw_ret hx hb hr hlocks d_Lw_law_456
    · have hiL : i + 4 ≤ L := by
        rw [Int32.lt_iff_toInt_lt, len4 hL, show (nI i).toInt = (i : Int) from Int32.toInt_ofNat_of_lt (by omega)] at h
        omega
      have next : ∀ (S' : CST) (X' : MS) (g1 : Nat → Int64) (H1 : Heap) (locs1 : List Loc) (ls1 : Array Slot), REL S' X' → LI s zc zm a b o S' X' g1 H1 → va_S (NF s) s.heap H1 locs1 → lv_has ls1 7 [(0, .ref b0), (1, .ref (a 0)), (2, .ref (b 0)), (3, .ref o), (4, .int (nI i))] → W p l e room_1 s m #[Value.ref b0] below meth c H1 locs1 (1000 + i + 1) (10000 + 6 * i + 6) (lw_Z below #[Value.ref b0] s) (F0 m 449 ls1 []) := by
        intro S' X' g1 H1 locs1 ls1 hR' hI' hS' hl'
        refine lv_iinc (v := nI (i + 4)) (lv' := [(4, .int (nI (i + 4))), (0, .ref b0), (1, .ref (a 0)), (2, .ref (b 0)), (3, .ref o)]) hx hb d_Lw_law_449 hl' (k := 4) rfl (show nI i + nI 4 = _ from nI_add i 4) (by decide) rfl (fun ls2 hl2 => ?_)
        refine lv_goto (tgt := 23) hx hb d_Lw_law_452 (by decide) ?_
        refine W.widen (k := 1000 + (i + 4)) (n := 10000 + 6 * (i + 4)) (by omega) (by omega) ?_
        exact ih (i + 4) S' X' g1 H1 locs1 ls2 (by omega) (by omega) hR' hI' hS' (lv_sub hl2 [1, 2, 3, 4, 0] rfl)
      have hc : 1000 + i + 1 + 1 ≤ room_1.cells := by show _ ≤ 601024; omega
      have hs : 10000 + 6 * i + 6 + 6 ≤ room_1.slots := by show _ ≤ 7293034; omega
      refine lv_aload_n hx hb d_Lw_law_32 rfl (lv_lk hlv rfl) ?_
      refine lv_iload hx hb d_Lw_law_33 (lv_lk hlv rfl) ?_
      refine va_sld hx hb hX hbl hbA hS (vp_in_nI (show i < L by omega) (by omega)) d_Lw_law_35 ?_
      refine lv_bipush (v := nI 7) hx hb d_Lw_law_36 (by decide +kernel) ?_
      refine lv_iand hx hb d_Lw_law_38 ?_
      obtain ⟨k, hk8, ek⟩ := and7 (xs (nI i).toNatClampNeg)
      rw [ek]
      rcases (by omega : k = 0 ∨ k = 1 ∨ k = 2 ∨ k = 3 ∨ k = 4 ∨ k = 5 ∨ k = 6 ∨ k = 7) with q | q | q | q | q | q | q | q <;> subst q
      · refine lv_tableIn (off := 41) (tgt := 80) hx hb d_Lw_law_39 (by decide +kernel) (by decide +kernel) (by decide +kernel) (by decide) ?_
        exact seg_append hlt L0 hR hI hS hX hbl hiL hL hlv hc hs next
      · refine lv_tableIn (off := 141) (tgt := 180) hx hb d_Lw_law_39 (by decide +kernel) (by decide +kernel) (by decide +kernel) (by decide) ?_
        exact seg_cut hlt L0 hR hI hS hX hbl hiL hL hlv hc hs next
      · refine lv_tableIn (off := 197) (tgt := 236) hx hb d_Lw_law_39 (by decide +kernel) (by decide +kernel) (by decide +kernel) (by decide) ?_
        exact seg_compile hlt L0 hR hI hS hX hbl hiL hL hlv hc hs next
      · refine lv_tableIn (off := 241) (tgt := 280) hx hb d_Lw_law_39 (by decide +kernel) (by decide +kernel) (by decide +kernel) (by decide) ?_
        exact seg_fault L0 hR hI hS hlv hc hs next
      · refine lv_tableIn (off := 254) (tgt := 293) hx hb d_Lw_law_39 (by decide +kernel) (by decide +kernel) (by decide +kernel) (by decide) ?_
        exact seg_run hlt L0 hR hI hS hX hbl hiL hL hlv hc hs next
      · refine lv_tableIn (off := 298) (tgt := 337) hx hb d_Lw_law_39 (by decide +kernel) (by decide +kernel) (by decide +kernel) (by decide) ?_
        exact seg_output hlt L0 hR hI hS hX hbl hiL hL hlv hc hs next
      · refine lv_tableIn (off := 354) (tgt := 393) hx hb d_Lw_law_39 (by decide +kernel) (by decide +kernel) (by decide +kernel) (by decide) ?_
        exact seg_count hlt L0 hR hI hS hX hbl hiL hL hlv hc hs next
      · refine lv_tableOut (tgt := 449) hx hb d_Lw_law_39 (by decide +kernel) (by decide) ?_
        refine W.widen (k := 1000 + i + 1) (n := 10000 + 6 * i + 6) (by omega) (by omega) ?_
        exact next S X g H locs ls hR hI hS hlv
