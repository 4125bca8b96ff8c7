/-! ===== the law's loop ===== -/
theorem and7 (x : Int32) : ∃ k : Nat, k < 8 ∧ x &&& nI 7 = nI k := by
  refine ⟨(x.toBitVec &&& 7#32).toNat, ?_, ?_⟩
  · rw [BitVec.toNat_and]
    exact Nat.lt_of_le_of_lt Nat.and_le_right (by decide)
  · rw [← Int32.toBitVec_inj, Int32.toBitVec_and]
    show x.toBitVec &&& 7#32 = BitVec.ofNat 32 (x.toBitVec &&& 7#32).toNat
    rw [BitVec.ofNat_toNat, BitVec.setWidth_eq]
section RE
variable {p : Program} {l : Launch} {e : Env} {s : State} {m : MethodId} {args : Array Value} {below : List Frame} {meth : Method} {c : Code} {zc zm : Zt} {a b : Nat → Nat} {o b0 i : Nat} {S S' : CST} {X X' : MS} {g : Nat → Int64} {H : Heap} {locs : List Loc} {cells slots : Nat} {Q : State → Prop} {pc : Nat} {ls : Array Slot}
theorem seg_tail (L0 : LX p l s m args c zc zm o) (hI : LI s zc zm a b o S X g H) (hS : va_S (NF s) s.heap H locs) {y : MethodName} {ccY : ByteArray} {nLY n iM k : Nat} {As : List Value} {r : Int64} {v : Int32} (hk : k < 5) (hthr : r_thrown X' = k) (hrv : k = 0 → r = v.toInt64) (hg : k = 0 → g 0 = r) (hM : XC l (Gz zm) 62 y ccY nLY (some .int) (.ref (b 0) :: As) (mw zm b X) (.inl (some (.int v))) (mw zm b X')) (Y : Yw y ccY nLY (some .int) n) (hcl : classes[6]? = some (y.cls, F_Mo, 59)) (hn : As.length = n) (hl : Cond.methodLink "PascalMachineLaw" iM y ∈ gt) (hlv : lv_has ls 7 [(5, .int (nI k)), (0, .ref b0), (1, .ref (a 0)), (2, .ref (b 0)), (3, .ref o), (4, .int (nI i))]) (hc : cells + 1 ≤ room_1.cells) (hs : slots + 6 ≤ room_1.slots)
    (d0 : decode b_Lw_law pc = .ok (.invokevirtual iM, 3)) (d1 : decode b_Lw_law (pc + 3) = .ok (.istore 6, 2)) (d2 : decode b_Lw_law (pc + 5) = .ok (.aload_n 2, 1)) (d3 : decode b_Lw_law (pc + 6) = .ok (.invokevirtual 52, 3)) (d4 : decode b_Lw_law (pc + 9) = .ok (.iload 5, 2)) (d5 : decode b_Lw_law (pc + 11) = .ok (.if_icmp .eq 5, 3)) (d6 : decode b_Lw_law (pc + 16) = .ok (.iload 5, 2)) (d7 : decode b_Lw_law (pc + 18) = .ok (.ifCond .ne 15, 3)) (d8 : decode b_Lw_law (pc + 21) = .ok (.aload_n 3, 1)) (d9 : decode b_Lw_law (pc + 22) = .ok (.iconst 0, 1)) (d10 : decode b_Lw_law (pc + 23) = .ok (.laload, 1)) (d11 : decode b_Lw_law (pc + 24) = .ok (.iload 6, 2)) (d12 : decode b_Lw_law (pc + 26) = .ok (.i2l, 1)) (d13 : decode b_Lw_law (pc + 27) = .ok (.lcmp, 1)) (d14 : decode b_Lw_law (pc + 28) = .ok (.ifCond .eq 5, 3)) {off : Int} (d15 : decode b_Lw_law (pc + 33) = .ok (.goto off, 3)) (ht : ((pc + 33 : Nat) : Int) + off = ((449 : Nat) : Int))
    (kk : ∀ (H1 : Heap) (locs1 : List Loc) (ls1 : Array Slot), LI s zc zm a b o S X' g H1 → va_S (NF s) s.heap H1 locs1 → lv_has ls1 7 [(0, .ref b0), (1, .ref (a 0)), (2, .ref (b 0)), (3, .ref o), (4, .int (nI i))] → W p l e room_1 s m args below meth c H1 locs1 cells slots Q (F0 m 449 ls1 [])) : W p l e room_1 s m args below meth c H locs cells slots Q (F0 m pc ls (As.reverse ++ [.ref (b 0)])) := by
  have hx := L0.1.1
  have hb := L0.1.2.1
  have hts := L0.1.2.2.2.2
  refine WcallM (rest := []) L0 hI hS hM Y hcl hn hl hlv.1 rfl d0 hc hs (fun H1 locs1 hI1 hS1 => ?_)
  refine lv_istore (lv' := [(6, .int v), (5, .int (nI k)), (0, .ref b0), (1, .ref (a 0)), (2, .ref (b 0)), (3, .ref o), (4, .int (nI i))]) hx hb d1 hlv (by decide) rfl (fun ls hlv => ?_)
  refine lv_aload_n hx hb d2 rfl (lv_lk hlv rfl) ?_
  refine WcallM (rest := []) (As := []) L0 hI1 hS1 (c_Mo_thrown 61 ⟨rfl, rfl⟩) Y_Mo_thrown rfl rfl k_Lw_52 hlv.1 rfl d3 hc hs (fun H2 locs2 hI2 hS2 => ?_)
  refine lv_iload hx hb d4 (lv_lk hlv rfl) ?_
  have hend : ∀ (H3 : Heap) (locs3 : List Loc), LI s zc zm a b o S X' g H3 → va_S (NF s) s.heap H3 locs3 → W p l e room_1 s m args below meth c H3 locs3 cells slots Q (F0 m (pc + 33) ls []) := fun H3 locs3 hI3 hS3 => lv_goto hx hb d15 ht (kk H3 locs3 ls hI3 hS3 (lv_sub hlv [2, 3, 4, 5, 6] rfl))
  refine lv_icmp_eq (tgt := pc + 16) hx hb d5 (by omega) (fun _ => ?_) (fun h => absurd (by rw [hthr]) h)
  refine lv_iload hx hb d6 (lv_lk hlv rfl) ?_
  refine lv_if_ne (tgt := pc + 33) hx hb d7 (by omega) (fun _ => hend H2 locs2 hI2 hS2) (fun h0 => ?_)
  have hk0 : k = 0 := (nI_eq (by omega) (by decide)).mp h0
  refine lv_aload_n hx hb d8 rfl (lv_lk hlv rfl) ?_
  refine lv_iconst (v := nI 0) hx hb d9 (by decide +kernel) ?_
  refine va_lald (D := zc.1) (cl := classes) (tys := (Gz zc).2.1) (ws := [(o, outE zc g)]) (f := g) hx hb hI2.1.1 (fun k x hx => ?_) 0 1 rfl rfl (vp_in_nI (by decide) (by decide)) d10 ?_
  · have h1 : k < 1 := (List.getElem?_eq_some_iff.mp hx).1
    have h2 : k = 0 := by omega
    subst h2
    cases hx
    exact hI2.2.2
  refine lv_iload hx hb d11 (lv_lk hlv rfl) ?_
  refine lv_i2l (v := v.toInt64) hx hb d12 rfl ?_
  refine W.lcmp hx hb d13 ?_
  refine lv_if_eq (tgt := pc + 33) hx hb d14 (by omega) (fun _ => hend H2 locs2 hI2 hS2) (fun h => absurd ?_ h)
  rw [show (nI 0).toNatClampNeg = 0 from by decide +kernel, hg hk0, hrv hk0]
  unfold lg_cmp
  simp
set_option maxRecDepth 100000 in
theorem seg_append (hlt : l.stackTraces = false) (L0 : LX p l s m args c zc zm o) (hR : REL S X) (hI : LI s zc zm a b o S X g H) (hS : va_S (NF s) s.heap H locs) {L : Nat} {xs : Nat → Int32} (hX : va_X b0 L xs s s.heap) (hbl : b0 < s.heap.size) (hi : i + 4 ≤ L) (hL : L ≤ 2048) (hlv : lv_has ls 7 [(0, .ref b0), (1, .ref (a 0)), (2, .ref (b 0)), (3, .ref o), (4, .int (nI i))]) (hc : cells + 1 + 1 ≤ room_1.cells) (hs : slots + 6 + 6 ≤ room_1.slots) (kk : ∀ (S' : CST) (X' : MS) (g1 : Nat → Int64) (H1 : Heap) (locs1 : List Loc) (ls1 : Array Slot), REL S' X' → LI s zc zm a b o S' X' g1 H1 → va_S (NF s) s.heap H1 locs1 → lv_has ls1 7 [(0, .ref b0), (1, .ref (a 0)), (2, .ref (b 0)), (3, .ref o), (4, .int (nI i))] → W p l e room_1 s m args below meth c H1 locs1 (cells + 1) (slots + 6) Q (F0 m 449 ls1 [])) : W p l e room_1 s m args below meth c H locs cells slots Q (F0 m 80 ls []) := by
  have hx := L0.1.1
  have hb := L0.1.2.1
  have hown := L0.1.2.2.2.1
  have hts := L0.1.2.2.2.2
  have hbA : ¬ NF s b0 := Nat.not_le.mpr hbl
  have in_1 : vp_in (nI i + nI 1) L := by rw [nI_add]; exact vp_in_nI (by omega) (by omega)
  have in_2 : vp_in (nI i + nI 2) L := by rw [nI_add]; exact vp_in_nI (by omega) (by omega)
  have in_3 : vp_in (nI i + nI 3) L := by rw [nI_add]; exact vp_in_nI (by omega) (by omega)
  obtain ⟨k, r, v, S2, X2, hk, hLC, hXC, hthr, hrv, hR2⟩ := both_append (zc := zc) (zm := zm) (a := a) (b := b) (o := o) hlt hR ((xs (nI i + nI 1).toNatClampNeg).toInt64 <<< ((nI 32).toInt64 &&& 63) ||| ((xs (nI i + nI 2).toNatClampNeg).toInt64 &&& 4294967295)) (xs (nI i + nI 3).toNatClampNeg)
  refine lv_aload_n hx hb d_Lw_law_80 rfl (lv_lk hlv rfl) ?_
  refine lv_aload_n hx hb d_Lw_law_81 rfl (lv_lk hlv rfl) ?_
  refine lv_iload hx hb d_Lw_law_82 (lv_lk hlv rfl) ?_
  refine lv_iconst (v := nI 1) hx hb d_Lw_law_84 (by decide +kernel) ?_
  refine lv_iadd hx hb d_Lw_law_85 ?_
  refine va_sld hx hb hX hbl hbA hS (in_1) d_Lw_law_86 ?_
  refine lv_i2l hx hb d_Lw_law_87 rfl ?_
  refine lv_bipush (v := nI 32) hx hb d_Lw_law_88 (by decide +kernel) ?_
  refine lv_lshl hx hb d_Lw_law_90 rfl ?_
  refine lv_aload_n hx hb d_Lw_law_91 rfl (lv_lk hlv rfl) ?_
  refine lv_iload hx hb d_Lw_law_92 (lv_lk hlv rfl) ?_
  refine lv_iconst (v := nI 2) hx hb d_Lw_law_94 (by decide +kernel) ?_
  refine lv_iadd hx hb d_Lw_law_95 ?_
  refine va_sld hx hb hX hbl hbA hS (in_2) d_Lw_law_96 ?_
  refine lv_i2l hx hb d_Lw_law_97 rfl ?_
  refine lv_ldc2 hx hb hown (hts _ k_Lw_44) d_Lw_law_98 ?_
  refine lv_land hx hb d_Lw_law_101 ?_
  refine lv_lor hx hb d_Lw_law_102 ?_
  refine lv_aload_n hx hb d_Lw_law_103 rfl (lv_lk hlv rfl) ?_
  refine lv_iload hx hb d_Lw_law_104 (lv_lk hlv rfl) ?_
  refine lv_iconst (v := nI 3) hx hb d_Lw_law_106 (by decide +kernel) ?_
  refine lv_iadd hx hb d_Lw_law_107 ?_
  refine va_sld hx hb hX hbl hbA hS (in_3) d_Lw_law_108 ?_
  refine lv_aload_n hx hb d_Lw_law_109 rfl (lv_lk hlv rfl) ?_
  refine WcallL (rest := []) (n := 4) (As := [.ref (a 0), .long ((xs (nI i + nI 1).toNatClampNeg).toInt64 <<< ((nI 32).toInt64 &&& 63) ||| ((xs (nI i + nI 2).toNatClampNeg).toInt64 &&& 4294967295)), .int (xs (nI i + nI 3).toNatClampNeg), .ref o]) L0 hI hS hLC kw_Lw_append ks_Lw_append kv_Lw (by decide +kernel) (by decide +kernel) rfl (by decide) k_Lw_46 hlv.1 rfl d_Lw_law_110 (by omega) (by omega) (fun H locs g hI hg hS => ?_)
  refine lv_istore (lv' := (5, .int (nI k)) :: [(0, .ref b0), (1, .ref (a 0)), (2, .ref (b 0)), (3, .ref o), (4, .int (nI i))]) hx hb d_Lw_law_113 hlv (by decide) rfl (fun ls hlv => ?_)
  refine lv_aload_n hx hb d_Lw_law_115 rfl (lv_lk hlv rfl) ?_
  refine lv_aload_n hx hb d_Lw_law_116 rfl (lv_lk hlv rfl) ?_
  refine lv_iload hx hb d_Lw_law_117 (lv_lk hlv rfl) ?_
  refine lv_iconst (v := nI 1) hx hb d_Lw_law_119 (by decide +kernel) ?_
  refine lv_iadd hx hb d_Lw_law_120 ?_
  refine va_sld hx hb hX hbl hbA hS (in_1) d_Lw_law_121 ?_
  refine lv_i2l hx hb d_Lw_law_122 rfl ?_
  refine lv_bipush (v := nI 32) hx hb d_Lw_law_123 (by decide +kernel) ?_
  refine lv_lshl hx hb d_Lw_law_125 rfl ?_
  refine lv_aload_n hx hb d_Lw_law_126 rfl (lv_lk hlv rfl) ?_
  refine lv_iload hx hb d_Lw_law_127 (lv_lk hlv rfl) ?_
  refine lv_iconst (v := nI 2) hx hb d_Lw_law_129 (by decide +kernel) ?_
  refine lv_iadd hx hb d_Lw_law_130 ?_
  refine va_sld hx hb hX hbl hbA hS (in_2) d_Lw_law_131 ?_
  refine lv_i2l hx hb d_Lw_law_132 rfl ?_
  refine lv_ldc2 hx hb hown (hts _ k_Lw_44) d_Lw_law_133 ?_
  refine lv_land hx hb d_Lw_law_136 ?_
  refine lv_lor hx hb d_Lw_law_137 ?_
  refine lv_aload_n hx hb d_Lw_law_138 rfl (lv_lk hlv rfl) ?_
  refine lv_iload hx hb d_Lw_law_139 (lv_lk hlv rfl) ?_
  refine lv_iconst (v := nI 3) hx hb d_Lw_law_141 (by decide +kernel) ?_
  refine lv_iadd hx hb d_Lw_law_142 ?_
  refine va_sld hx hb hX hbl hbA hS (in_3) d_Lw_law_143 ?_
  exact seg_tail (As := [.long ((xs (nI i + nI 1).toNatClampNeg).toInt64 <<< ((nI 32).toInt64 &&& 63) ||| ((xs (nI i + nI 2).toNatClampNeg).toInt64 &&& 4294967295)), .int (xs (nI i + nI 3).toNatClampNeg)]) L0 hI hS hk hthr hrv hg hXC Y_Mo_append rfl rfl k_Lw_51 hlv (by omega) (by omega) d_Lw_law_144 d_Lw_law_147 d_Lw_law_149 d_Lw_law_150 d_Lw_law_153 d_Lw_law_155 d_Lw_law_160 d_Lw_law_162 d_Lw_law_165 d_Lw_law_166 d_Lw_law_167 d_Lw_law_168 d_Lw_law_170 d_Lw_law_171 d_Lw_law_172 d_Lw_law_177 (by decide) (fun H1 locs1 ls1 hI1 hS1 hl1 => kk S2 X2 g H1 locs1 ls1 hR2 hI1 hS1 hl1)
set_option maxRecDepth 100000 in
theorem seg_cut (hlt : l.stackTraces = false) (L0 : LX p l s m args c zc zm o) (hR : REL S X) (hI : LI s zc zm a b o S X g H) (hS : va_S (NF s) s.heap H locs) {L : Nat} {xs : Nat → Int32} (hX : va_X b0 L xs s s.heap) (hbl : b0 < s.heap.size) (hi : i + 4 ≤ L) (hL : L ≤ 2048) (hlv : lv_has ls 7 [(0, .ref b0), (1, .ref (a 0)), (2, .ref (b 0)), (3, .ref o), (4, .int (nI i))]) (hc : cells + 1 + 1 ≤ room_1.cells) (hs : slots + 6 + 6 ≤ room_1.slots) (kk : ∀ (S' : CST) (X' : MS) (g1 : Nat → Int64) (H1 : Heap) (locs1 : List Loc) (ls1 : Array Slot), REL S' X' → LI s zc zm a b o S' X' g1 H1 → va_S (NF s) s.heap H1 locs1 → lv_has ls1 7 [(0, .ref b0), (1, .ref (a 0)), (2, .ref (b 0)), (3, .ref o), (4, .int (nI i))] → W p l e room_1 s m args below meth c H1 locs1 (cells + 1) (slots + 6) Q (F0 m 449 ls1 [])) : W p l e room_1 s m args below meth c H locs cells slots Q (F0 m 180 ls []) := by
  have hx := L0.1.1
  have hb := L0.1.2.1
  have hown := L0.1.2.2.2.1
  have hts := L0.1.2.2.2.2
  have hbA : ¬ NF s b0 := Nat.not_le.mpr hbl
  have in_1 : vp_in (nI i + nI 1) L := by rw [nI_add]; exact vp_in_nI (by omega) (by omega)
  have in_2 : vp_in (nI i + nI 2) L := by rw [nI_add]; exact vp_in_nI (by omega) (by omega)
  have in_3 : vp_in (nI i + nI 3) L := by rw [nI_add]; exact vp_in_nI (by omega) (by omega)
  obtain ⟨k, r, v, S2, X2, hk, hLC, hXC, hthr, hrv, hR2⟩ := both_cut (zc := zc) (zm := zm) (a := a) (b := b) (o := o) hlt hR (xs (nI i + nI 1).toNatClampNeg)
  refine lv_aload_n hx hb d_Lw_law_180 rfl (lv_lk hlv rfl) ?_
  refine lv_aload_n hx hb d_Lw_law_181 rfl (lv_lk hlv rfl) ?_
  refine lv_iload hx hb d_Lw_law_182 (lv_lk hlv rfl) ?_
  refine lv_iconst (v := nI 1) hx hb d_Lw_law_184 (by decide +kernel) ?_
  refine lv_iadd hx hb d_Lw_law_185 ?_
  refine va_sld hx hb hX hbl hbA hS (in_1) d_Lw_law_186 ?_
  refine lv_aload_n hx hb d_Lw_law_187 rfl (lv_lk hlv rfl) ?_
  refine WcallL (rest := []) (n := 3) (As := [.ref (a 0), .int (xs (nI i + nI 1).toNatClampNeg), .ref o]) L0 hI hS hLC kw_Lw_cut ks_Lw_cut kv_Lw (by decide +kernel) (by decide +kernel) rfl (by decide) k_Lw_55 hlv.1 rfl d_Lw_law_188 (by omega) (by omega) (fun H locs g hI hg hS => ?_)
  refine lv_istore (lv' := (5, .int (nI k)) :: [(0, .ref b0), (1, .ref (a 0)), (2, .ref (b 0)), (3, .ref o), (4, .int (nI i))]) hx hb d_Lw_law_191 hlv (by decide) rfl (fun ls hlv => ?_)
  refine lv_aload_n hx hb d_Lw_law_193 rfl (lv_lk hlv rfl) ?_
  refine lv_aload_n hx hb d_Lw_law_194 rfl (lv_lk hlv rfl) ?_
  refine lv_iload hx hb d_Lw_law_195 (lv_lk hlv rfl) ?_
  refine lv_iconst (v := nI 1) hx hb d_Lw_law_197 (by decide +kernel) ?_
  refine lv_iadd hx hb d_Lw_law_198 ?_
  refine va_sld hx hb hX hbl hbA hS (in_1) d_Lw_law_199 ?_
  exact seg_tail (As := [.int (xs (nI i + nI 1).toNatClampNeg)]) L0 hI hS hk hthr hrv hg hXC Y_Mo_cut rfl rfl k_Lw_58 hlv (by omega) (by omega) d_Lw_law_200 d_Lw_law_203 d_Lw_law_205 d_Lw_law_206 d_Lw_law_209 d_Lw_law_211 d_Lw_law_216 d_Lw_law_218 d_Lw_law_221 d_Lw_law_222 d_Lw_law_223 d_Lw_law_224 d_Lw_law_226 d_Lw_law_227 d_Lw_law_228 d_Lw_law_233 (by decide) (fun H1 locs1 ls1 hI1 hS1 hl1 => kk S2 X2 g H1 locs1 ls1 hR2 hI1 hS1 hl1)
set_option maxRecDepth 100000 in
theorem seg_compile (hlt : l.stackTraces = false) (L0 : LX p l s m args c zc zm o) (hR : REL S X) (hI : LI s zc zm a b o S X g H) (hS : va_S (NF s) s.heap H locs) {L : Nat} {xs : Nat → Int32} (hX : va_X b0 L xs s s.heap) (hbl : b0 < s.heap.size) (hi : i + 4 ≤ L) (hL : L ≤ 2048) (hlv : lv_has ls 7 [(0, .ref b0), (1, .ref (a 0)), (2, .ref (b 0)), (3, .ref o), (4, .int (nI i))]) (hc : cells + 1 + 1 ≤ room_1.cells) (hs : slots + 6 + 6 ≤ room_1.slots) (kk : ∀ (S' : CST) (X' : MS) (g1 : Nat → Int64) (H1 : Heap) (locs1 : List Loc) (ls1 : Array Slot), REL S' X' → LI s zc zm a b o S' X' g1 H1 → va_S (NF s) s.heap H1 locs1 → lv_has ls1 7 [(0, .ref b0), (1, .ref (a 0)), (2, .ref (b 0)), (3, .ref o), (4, .int (nI i))] → W p l e room_1 s m args below meth c H1 locs1 (cells + 1) (slots + 6) Q (F0 m 449 ls1 [])) : W p l e room_1 s m args below meth c H locs cells slots Q (F0 m 236 ls []) := by
  have hx := L0.1.1
  have hb := L0.1.2.1
  have hown := L0.1.2.2.2.1
  have hts := L0.1.2.2.2.2
  have hbA : ¬ NF s b0 := Nat.not_le.mpr hbl
  have in_1 : vp_in (nI i + nI 1) L := by rw [nI_add]; exact vp_in_nI (by omega) (by omega)
  have in_2 : vp_in (nI i + nI 2) L := by rw [nI_add]; exact vp_in_nI (by omega) (by omega)
  have in_3 : vp_in (nI i + nI 3) L := by rw [nI_add]; exact vp_in_nI (by omega) (by omega)
  obtain ⟨k, r, v, S2, X2, hk, hLC, hXC, hthr, hrv, hR2⟩ := both_compile (zc := zc) (zm := zm) (a := a) (b := b) (o := o) hlt hR 
  refine lv_aload_n hx hb d_Lw_law_236 rfl (lv_lk hlv rfl) ?_
  refine lv_aload_n hx hb d_Lw_law_237 rfl (lv_lk hlv rfl) ?_
  refine WcallL (rest := []) (n := 2) (As := [.ref (a 0), .ref o]) L0 hI hS hLC kw_Lw_compile ks_Lw_compile kv_Lw (by decide +kernel) (by decide +kernel) rfl (by decide) k_Lw_59 hlv.1 rfl d_Lw_law_238 (by omega) (by omega) (fun H locs g hI hg hS => ?_)
  refine lv_istore (lv' := (5, .int (nI k)) :: [(0, .ref b0), (1, .ref (a 0)), (2, .ref (b 0)), (3, .ref o), (4, .int (nI i))]) hx hb d_Lw_law_241 hlv (by decide) rfl (fun ls hlv => ?_)
  refine lv_aload_n hx hb d_Lw_law_243 rfl (lv_lk hlv rfl) ?_
  exact seg_tail (As := []) L0 hI hS hk hthr hrv hg hXC Y_Mo_compile rfl rfl k_Lw_62 hlv (by omega) (by omega) d_Lw_law_244 d_Lw_law_247 d_Lw_law_249 d_Lw_law_250 d_Lw_law_253 d_Lw_law_255 d_Lw_law_260 d_Lw_law_262 d_Lw_law_265 d_Lw_law_266 d_Lw_law_267 d_Lw_law_268 d_Lw_law_270 d_Lw_law_271 d_Lw_law_272 d_Lw_law_277 (by decide) (fun H1 locs1 ls1 hI1 hS1 hl1 => kk S2 X2 g H1 locs1 ls1 hR2 hI1 hS1 hl1)
set_option maxRecDepth 100000 in
theorem seg_run (hlt : l.stackTraces = false) (L0 : LX p l s m args c zc zm o) (hR : REL S X) (hI : LI s zc zm a b o S X g H) (hS : va_S (NF s) s.heap H locs) {L : Nat} {xs : Nat → Int32} (hX : va_X b0 L xs s s.heap) (hbl : b0 < s.heap.size) (hi : i + 4 ≤ L) (hL : L ≤ 2048) (hlv : lv_has ls 7 [(0, .ref b0), (1, .ref (a 0)), (2, .ref (b 0)), (3, .ref o), (4, .int (nI i))]) (hc : cells + 1 + 1 ≤ room_1.cells) (hs : slots + 6 + 6 ≤ room_1.slots) (kk : ∀ (S' : CST) (X' : MS) (g1 : Nat → Int64) (H1 : Heap) (locs1 : List Loc) (ls1 : Array Slot), REL S' X' → LI s zc zm a b o S' X' g1 H1 → va_S (NF s) s.heap H1 locs1 → lv_has ls1 7 [(0, .ref b0), (1, .ref (a 0)), (2, .ref (b 0)), (3, .ref o), (4, .int (nI i))] → W p l e room_1 s m args below meth c H1 locs1 (cells + 1) (slots + 6) Q (F0 m 449 ls1 [])) : W p l e room_1 s m args below meth c H locs cells slots Q (F0 m 293 ls []) := by
  have hx := L0.1.1
  have hb := L0.1.2.1
  have hown := L0.1.2.2.2.1
  have hts := L0.1.2.2.2.2
  have hbA : ¬ NF s b0 := Nat.not_le.mpr hbl
  have in_1 : vp_in (nI i + nI 1) L := by rw [nI_add]; exact vp_in_nI (by omega) (by omega)
  have in_2 : vp_in (nI i + nI 2) L := by rw [nI_add]; exact vp_in_nI (by omega) (by omega)
  have in_3 : vp_in (nI i + nI 3) L := by rw [nI_add]; exact vp_in_nI (by omega) (by omega)
  obtain ⟨k, r, v, S2, X2, hk, hLC, hXC, hthr, hrv, hR2⟩ := both_run (zc := zc) (zm := zm) (a := a) (b := b) (o := o) hlt hR 
  refine lv_aload_n hx hb d_Lw_law_293 rfl (lv_lk hlv rfl) ?_
  refine lv_aload_n hx hb d_Lw_law_294 rfl (lv_lk hlv rfl) ?_
  refine WcallL (rest := []) (n := 2) (As := [.ref (a 0), .ref o]) L0 hI hS hLC kw_Lw_run ks_Lw_run kv_Lw (by decide +kernel) (by decide +kernel) rfl (by decide) k_Lw_67 hlv.1 rfl d_Lw_law_295 (by omega) (by omega) (fun H locs g hI hg hS => ?_)
  refine lv_istore (lv' := (5, .int (nI k)) :: [(0, .ref b0), (1, .ref (a 0)), (2, .ref (b 0)), (3, .ref o), (4, .int (nI i))]) hx hb d_Lw_law_298 hlv (by decide) rfl (fun ls hlv => ?_)
  refine lv_aload_n hx hb d_Lw_law_300 rfl (lv_lk hlv rfl) ?_
  exact seg_tail (As := []) L0 hI hS hk hthr hrv hg hXC Y_Mo_run rfl rfl k_Lw_69 hlv (by omega) (by omega) d_Lw_law_301 d_Lw_law_304 d_Lw_law_306 d_Lw_law_307 d_Lw_law_310 d_Lw_law_312 d_Lw_law_317 d_Lw_law_319 d_Lw_law_322 d_Lw_law_323 d_Lw_law_324 d_Lw_law_325 d_Lw_law_327 d_Lw_law_328 d_Lw_law_329 d_Lw_law_334 (by decide) (fun H1 locs1 ls1 hI1 hS1 hl1 => kk S2 X2 g H1 locs1 ls1 hR2 hI1 hS1 hl1)
set_option maxRecDepth 100000 in
theorem seg_output (hlt : l.stackTraces = false) (L0 : LX p l s m args c zc zm o) (hR : REL S X) (hI : LI s zc zm a b o S X g H) (hS : va_S (NF s) s.heap H locs) {L : Nat} {xs : Nat → Int32} (hX : va_X b0 L xs s s.heap) (hbl : b0 < s.heap.size) (hi : i + 4 ≤ L) (hL : L ≤ 2048) (hlv : lv_has ls 7 [(0, .ref b0), (1, .ref (a 0)), (2, .ref (b 0)), (3, .ref o), (4, .int (nI i))]) (hc : cells + 1 + 1 ≤ room_1.cells) (hs : slots + 6 + 6 ≤ room_1.slots) (kk : ∀ (S' : CST) (X' : MS) (g1 : Nat → Int64) (H1 : Heap) (locs1 : List Loc) (ls1 : Array Slot), REL S' X' → LI s zc zm a b o S' X' g1 H1 → va_S (NF s) s.heap H1 locs1 → lv_has ls1 7 [(0, .ref b0), (1, .ref (a 0)), (2, .ref (b 0)), (3, .ref o), (4, .int (nI i))] → W p l e room_1 s m args below meth c H1 locs1 (cells + 1) (slots + 6) Q (F0 m 449 ls1 [])) : W p l e room_1 s m args below meth c H locs cells slots Q (F0 m 337 ls []) := by
  have hx := L0.1.1
  have hb := L0.1.2.1
  have hown := L0.1.2.2.2.1
  have hts := L0.1.2.2.2.2
  have hbA : ¬ NF s b0 := Nat.not_le.mpr hbl
  have in_1 : vp_in (nI i + nI 1) L := by rw [nI_add]; exact vp_in_nI (by omega) (by omega)
  have in_2 : vp_in (nI i + nI 2) L := by rw [nI_add]; exact vp_in_nI (by omega) (by omega)
  have in_3 : vp_in (nI i + nI 3) L := by rw [nI_add]; exact vp_in_nI (by omega) (by omega)
  obtain ⟨k, r, v, S2, X2, hk, hLC, hXC, hthr, hrv, hR2⟩ := both_output (zc := zc) (zm := zm) (a := a) (b := b) (o := o) hlt hR (xs (nI i + nI 1).toNatClampNeg)
  refine lv_aload_n hx hb d_Lw_law_337 rfl (lv_lk hlv rfl) ?_
  refine lv_aload_n hx hb d_Lw_law_338 rfl (lv_lk hlv rfl) ?_
  refine lv_iload hx hb d_Lw_law_339 (lv_lk hlv rfl) ?_
  refine lv_iconst (v := nI 1) hx hb d_Lw_law_341 (by decide +kernel) ?_
  refine lv_iadd hx hb d_Lw_law_342 ?_
  refine va_sld hx hb hX hbl hbA hS (in_1) d_Lw_law_343 ?_
  refine lv_aload_n hx hb d_Lw_law_344 rfl (lv_lk hlv rfl) ?_
  refine WcallL (rest := []) (n := 3) (As := [.ref (a 0), .int (xs (nI i + nI 1).toNatClampNeg), .ref o]) L0 hI hS hLC kw_Lw_output ks_Lw_output kv_Lw (by decide +kernel) (by decide +kernel) rfl (by decide) k_Lw_70 hlv.1 rfl d_Lw_law_345 (by omega) (by omega) (fun H locs g hI hg hS => ?_)
  refine lv_istore (lv' := (5, .int (nI k)) :: [(0, .ref b0), (1, .ref (a 0)), (2, .ref (b 0)), (3, .ref o), (4, .int (nI i))]) hx hb d_Lw_law_348 hlv (by decide) rfl (fun ls hlv => ?_)
  refine lv_aload_n hx hb d_Lw_law_350 rfl (lv_lk hlv rfl) ?_
  refine lv_aload_n hx hb d_Lw_law_351 rfl (lv_lk hlv rfl) ?_
  refine lv_iload hx hb d_Lw_law_352 (lv_lk hlv rfl) ?_
  refine lv_iconst (v := nI 1) hx hb d_Lw_law_354 (by decide +kernel) ?_
  refine lv_iadd hx hb d_Lw_law_355 ?_
  refine va_sld hx hb hX hbl hbA hS (in_1) d_Lw_law_356 ?_
  exact seg_tail (As := [.int (xs (nI i + nI 1).toNatClampNeg)]) L0 hI hS hk hthr hrv hg hXC Y_Mo_output rfl rfl k_Lw_72 hlv (by omega) (by omega) d_Lw_law_357 d_Lw_law_360 d_Lw_law_362 d_Lw_law_363 d_Lw_law_366 d_Lw_law_368 d_Lw_law_373 d_Lw_law_375 d_Lw_law_378 d_Lw_law_379 d_Lw_law_380 d_Lw_law_381 d_Lw_law_383 d_Lw_law_384 d_Lw_law_385 d_Lw_law_390 (by decide) (fun H1 locs1 ls1 hI1 hS1 hl1 => kk S2 X2 g H1 locs1 ls1 hR2 hI1 hS1 hl1)
set_option maxRecDepth 100000 in
theorem seg_count (hlt : l.stackTraces = false) (L0 : LX p l s m args c zc zm o) (hR : REL S X) (hI : LI s zc zm a b o S X g H) (hS : va_S (NF s) s.heap H locs) {L : Nat} {xs : Nat → Int32} (hX : va_X b0 L xs s s.heap) (hbl : b0 < s.heap.size) (hi : i + 4 ≤ L) (hL : L ≤ 2048) (hlv : lv_has ls 7 [(0, .ref b0), (1, .ref (a 0)), (2, .ref (b 0)), (3, .ref o), (4, .int (nI i))]) (hc : cells + 1 + 1 ≤ room_1.cells) (hs : slots + 6 + 6 ≤ room_1.slots) (kk : ∀ (S' : CST) (X' : MS) (g1 : Nat → Int64) (H1 : Heap) (locs1 : List Loc) (ls1 : Array Slot), REL S' X' → LI s zc zm a b o S' X' g1 H1 → va_S (NF s) s.heap H1 locs1 → lv_has ls1 7 [(0, .ref b0), (1, .ref (a 0)), (2, .ref (b 0)), (3, .ref o), (4, .int (nI i))] → W p l e room_1 s m args below meth c H1 locs1 (cells + 1) (slots + 6) Q (F0 m 449 ls1 [])) : W p l e room_1 s m args below meth c H locs cells slots Q (F0 m 393 ls []) := by
  have hx := L0.1.1
  have hb := L0.1.2.1
  have hown := L0.1.2.2.2.1
  have hts := L0.1.2.2.2.2
  have hbA : ¬ NF s b0 := Nat.not_le.mpr hbl
  have in_1 : vp_in (nI i + nI 1) L := by rw [nI_add]; exact vp_in_nI (by omega) (by omega)
  have in_2 : vp_in (nI i + nI 2) L := by rw [nI_add]; exact vp_in_nI (by omega) (by omega)
  have in_3 : vp_in (nI i + nI 3) L := by rw [nI_add]; exact vp_in_nI (by omega) (by omega)
  obtain ⟨k, r, v, S2, X2, hk, hLC, hXC, hthr, hrv, hR2⟩ := both_count (zc := zc) (zm := zm) (a := a) (b := b) (o := o) hlt hR (xs (nI i + nI 1).toNatClampNeg)
  refine lv_aload_n hx hb d_Lw_law_393 rfl (lv_lk hlv rfl) ?_
  refine lv_aload_n hx hb d_Lw_law_394 rfl (lv_lk hlv rfl) ?_
  refine lv_iload hx hb d_Lw_law_395 (lv_lk hlv rfl) ?_
  refine lv_iconst (v := nI 1) hx hb d_Lw_law_397 (by decide +kernel) ?_
  refine lv_iadd hx hb d_Lw_law_398 ?_
  refine va_sld hx hb hX hbl hbA hS (in_1) d_Lw_law_399 ?_
  refine lv_aload_n hx hb d_Lw_law_400 rfl (lv_lk hlv rfl) ?_
  refine WcallL (rest := []) (n := 3) (As := [.ref (a 0), .int (xs (nI i + nI 1).toNatClampNeg), .ref o]) L0 hI hS hLC kw_Lw_count ks_Lw_count kv_Lw (by decide +kernel) (by decide +kernel) rfl (by decide) k_Lw_73 hlv.1 rfl d_Lw_law_401 (by omega) (by omega) (fun H locs g hI hg hS => ?_)
  refine lv_istore (lv' := (5, .int (nI k)) :: [(0, .ref b0), (1, .ref (a 0)), (2, .ref (b 0)), (3, .ref o), (4, .int (nI i))]) hx hb d_Lw_law_404 hlv (by decide) rfl (fun ls hlv => ?_)
  refine lv_aload_n hx hb d_Lw_law_406 rfl (lv_lk hlv rfl) ?_
  refine lv_aload_n hx hb d_Lw_law_407 rfl (lv_lk hlv rfl) ?_
  refine lv_iload hx hb d_Lw_law_408 (lv_lk hlv rfl) ?_
  refine lv_iconst (v := nI 1) hx hb d_Lw_law_410 (by decide +kernel) ?_
  refine lv_iadd hx hb d_Lw_law_411 ?_
  refine va_sld hx hb hX hbl hbA hS (in_1) d_Lw_law_412 ?_
  exact seg_tail (As := [.int (xs (nI i + nI 1).toNatClampNeg)]) L0 hI hS hk hthr hrv hg hXC Y_Mo_count rfl rfl k_Lw_75 hlv (by omega) (by omega) d_Lw_law_413 d_Lw_law_416 d_Lw_law_418 d_Lw_law_419 d_Lw_law_422 d_Lw_law_424 d_Lw_law_429 d_Lw_law_431 d_Lw_law_434 d_Lw_law_435 d_Lw_law_436 d_Lw_law_437 d_Lw_law_439 d_Lw_law_440 d_Lw_law_441 d_Lw_law_446 (by decide) (fun H1 locs1 ls1 hI1 hS1 hl1 => kk S2 X2 g H1 locs1 ls1 hR2 hI1 hS1 hl1)
theorem seg_fault (L0 : LX p l s m args c zc zm o) (hR : REL S X) (hI : LI s zc zm a b o S X g H) (hS : va_S (NF s) s.heap H locs) (hlv : lv_has ls 7 [(0, .ref b0), (1, .ref (a 0)), (2, .ref (b 0)), (3, .ref o), (4, .int (nI i))]) (hc : cells + 1 + 1 ≤ room_1.cells) (hs : slots + 6 + 6 ≤ room_1.slots) (kk : ∀ (S' : CST) (X' : MS) (g1 : Nat → Int64) (H1 : Heap) (locs1 : List Loc) (ls1 : Array Slot), REL S' X' → LI s zc zm a b o S' X' g1 H1 → va_S (NF s) s.heap H1 locs1 → lv_has ls1 7 [(0, .ref b0), (1, .ref (a 0)), (2, .ref (b 0)), (3, .ref o), (4, .int (nI i))] → W p l e room_1 s m args below meth c H1 locs1 (cells + 1) (slots + 6) Q (F0 m 449 ls1 [])) : W p l e room_1 s m args below meth c H locs cells slots Q (F0 m 280 ls []) := by
  have hx := L0.1.1
  have hb := L0.1.2.1
  refine lv_aload_n hx hb d_Lw_law_280 rfl (lv_lk hlv rfl) ?_
  refine WcallF (S' := S) (rest := []) (As := []) L0 hI hS (c_PM_fault 62) Y_PM_fault rfl rfl k_Lw_63 hlv.1 rfl d_Lw_law_281 (by omega) (by omega) (fun H1 locs1 hI1 hS1 => ?_)
  refine lv_aload_n hx hb d_Lw_law_284 rfl (lv_lk hlv rfl) ?_
  refine WcallM (X' := w_thrown X 0) (rest := [.int S.2.2.2.1]) (As := []) L0 hI1 hS1 (c_Mo_fault 61 ⟨rfl, rfl⟩) Y_Mo_fault rfl rfl k_Lw_66 hlv.1 rfl d_Lw_law_285 (by omega) (by omega) (fun H2 locs2 hI2 hS2 => ?_)
  refine lv_icmp_eq (tgt := 449) hx hb d_Lw_law_288 (by decide) (fun _ => ?_) (fun h => absurd hR.2.2.1.symm h)
  refine W.widen (k := cells + 1) (n := slots + 6) (by omega) (by omega) ?_
  exact kk S (w_thrown X 0) g H2 locs2 ls (hR.th 0) hI2 hS2 hlv
end RE
