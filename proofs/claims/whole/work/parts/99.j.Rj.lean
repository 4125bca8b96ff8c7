/-! ===== the law from its entry: the makings ===== -/
set_option maxHeartbeats 8000000 in
set_option maxRecDepth 100000 in
/-- THE LAW, from its entry -/
theorem whole_start {p : Program} {e : Env} {s : State} {m : MethodId} {below : List Frame} {meth : Method} {c : Code} (l : Launch) (hlt : l.stackTraces = false) {b L : Nat} {xs : Nat → Int32} (hL : L ≤ 2048) (C0 : lw_At p s m meth c b L xs) : W p l e room_1 s m #[Value.ref b] below meth c s.heap [] 0 0 (lw_Z below #[Value.ref b] s) (entryFrame m ([Value.ref b] : List Value).toArray 7) := by
  obtain ⟨hx, hb, hr, hml, hown, hts9, hX, hbl, hlocks, hgv⟩ := C0
  have hb : c.code = b_Lw_law := hb
  have hown : s.vm.findClass "PascalMachineLaw" = some m.cls := hown
  have hts : ∀ w ∈ gt, w.before #[Value.ref b] s = true := fun w h => hts9 w (in_law w h)
  have htt : ∀ w ∈ tables_1, w.before #[Value.ref b] s = true := fun w h => hts9 w (in_tab w h)
  have hfl : ∀ w ∈ FL, w.before #[Value.ref b] s = true := flat_of_before _ hgv
  have hA : ∀ q : Nat, s.heap.size ≤ q → NF s q := fun _ h => h
  have hNS : NSt s := ⟨va_AO.of (htt _ kb_ao), fun q hq => va_Nw.of rfl (htt _ (nstL_in q hq))⟩
  have hNC : NCs s := fun A hA' => ⟨va_Nw.of rfl (htt _ (exN_yes A hA')), fun B hB hne => va_Nc.of (hfl _ (exN_not A hA' B hB hne))⟩
  obtain ⟨kt, hKK⟩ := KKof (A := NF s) (fun a h1 h2 => by have : s.heap.size ≤ a := h2; omega) htt hfl
  obtain ⟨c0, iS0, hKn0⟩ := u_known (C := R_Co) (T := F_Co) (N := 8) (n := 8) hts in_Co (hts _ ka_Co)
  obtain ⟨c1, iS1, hKn1⟩ := u_known (C := R_Cp) (T := F_Cp) (N := 4) (n := 4) hts in_Cp (hts _ ka_Cp)
  obtain ⟨c2, iS2, hKn2⟩ := u_known (C := R_Mc) (T := F_Mc) (N := 13) (n := 13) hts in_Mc (hts _ ka_Mc)
  obtain ⟨c3, iS3, hKn3⟩ := u_known (C := R_Nm) (T := F_Nm) (N := 9) (n := 9) hts in_Nm (hts _ ka_Nm)
  obtain ⟨c4, iS4, hKn4⟩ := u_known (C := R_Tk) (T := F_Tk) (N := 7) (n := 7) hts in_Tk (hts _ ka_Tk)
  obtain ⟨c5, iS5, hKn5⟩ := u_known (C := R_PM) (T := F_PM) (N := 5) (n := 5) hts in_PM (hts _ ka_PM)
  obtain ⟨c6, iS6, hKn6⟩ := u_known (C := R_Mo) (T := F_Mo) (N := 59) (n := 59) hts in_Mo (hts _ ka_Mo)
  obtain ⟨dC, dI, hKc⟩ : ∃ (dC : Nat → ClassId) (dI : Nat → Nat → Nat), ∀ (k : Nat) (q : vw_C), classes[k]? = some q → u_Kn s q.1 q.2.1 q.2.2 (dC k) (dI k) := by
    refine ⟨fun k => [c0, c1, c2, c3, c4, c5, c6].getD k c0, fun k => [iS0, iS1, iS2, iS3, iS4, iS5, iS6].getD k iS0, ?_⟩
    intro k q hq
    match k, hq with
    | 0, hq => cases hq; exact hKn0
    | 1, hq => cases hq; exact hKn1
    | 2, hq => cases hq; exact hKn2
    | 3, hq => cases hq; exact hKn3
    | 4, hq => cases hq; exact hKn4
    | 5, hq => cases hq; exact hKn5
    | 6, hq => cases hq; exact hKn6
    | k + 7, hq => simp [classes] at hq
  obtain ⟨aI, aI1, aI2⟩ := arr_of (hts _ kr_int) (fun _ h => h)
  obtain ⟨aL, aL1, aL2⟩ := arr_of (hts _ kr_long) (fun _ h => h)
  obtain ⟨aC, aC1, aC2⟩ := arr_of (hts _ kr_char) (fun _ h => h)
  obtain ⟨aK, aK1, aK2⟩ := arr_ofK hNS.1
  have hK : va_K (dC, dI) classes [(aI, .int), (aL, .long), (aC, .char), (aK, .object R_Kd)] s := by
    refine ⟨hKc, fun k q hq => ?_⟩
    match k, hq with
    | 0, hq => cases hq; exact ⟨aI1, aI2⟩
    | 1, hq => cases hq; exact ⟨aL1, aL2⟩
    | 2, hq => cases hq; exact ⟨aC1, aC2⟩
    | 3, hq => cases hq; exact ⟨aK1, aK2⟩
    | k + 4, hq => simp at hq
  clear hKn0 hKn1 hKn2 hKn3 hKn4 hKn5 hKn6 hKc aI1 aI2 aL1 aL2 aC1 aC2 aK1 aK2
  obtain ⟨z, hz⟩ : ∃ z : Zt, z = ((dC, dI), (aI, aL, aC, aK), (fun _ => False), kt) := ⟨_, rfl⟩
  have hK : va_K z.1 classes (Gz z).2.1 s := by rw [hz]; exact hK
  have hkt : z.2.2.2 = kt := by rw [hz]
  clear hz
  have hS : va_S (NF s) s.heap s.heap [] := va_S.rf
  have hP : va_P z.1 classes [] s.heap := fun k q h => by simp at h
  have hD : va_D (NF s) [] := ⟨fun i j p q h => by simp at h, fun k q h => by simp at h⟩
  have hlv := lv_entry ([.ref b]) (n := 7) (Nat.le_of_ble_eq_true rfl)
  rw [lg_entry_eq]
  generalize (lg_sl ([.ref b]) ++ List.replicate (7 - (lg_sl ([.ref b])).length) Slot.unset).toArray = ls at hlv ⊢
  have hlv : lv_has ls 7 [(0, .ref b)] := hlv
  refine va_new (D := z.1) (cl := classes) (ci := 5) (fs := [.null, .int 0, .null, .null, .int 0]) (C := R_PM) (T := F_PM) (N := 5) hx hb hts in_PM t_PM t_PM_ok hown (hts _ k_Lw_8) (hts _ ka_PM) (hts _ kv_PM) hK hP hD hS hA rfl (by decide) (by decide) (by decide) d_Lw_law_0 (fun q0 H hP hD hS => ?_)
  refine lv_dup hx hb d_Lw_law_3 rfl ?_
  refine WcallN (wr := []) hx hb hml hown hts hNS hA (nc_PM (l := l) (z := z)) kc_PM_init kv_PM k_Lw_40 kin_PM_init rfl (by decide +kernel) hK hP hD hS [0] [] rfl rfl (by decide) (by decide) ⟨by decide, by decide⟩ ⟨by decide, by decide⟩ hlv.1 rfl d_Lw_law_4 (fun f H locs hP hD hS => ?_)
  refine lv_astore_n (lv' := [(1, .ref q0), (0, .ref b)]) hx hb d_Lw_law_7 rfl hlv (by decide) rfl (fun ls hlv => ?_)
  refine va_new (D := z.1) (cl := classes) (ci := 6) (fs := [.int 0, .null, .int 0, .null, .null, .null, .null, .null, .null, .int 0, .null, .null, .null, .null, .int 0, .int 0, .null, .null, .null, .null, .null, .int 0, .int 0, .int 0, .null, .null, .int 0, .int 0, .null, .null, .null, .null, .null, .int 0, .int 0, .null, .null, .int 0, .null, .null, .null, .null, .null, .null, .null, .null, .int 0, .int 0, .int 0, .int 0, .int 0, .int 0, .null, .int 0, .null, .null, .null, .null, .null]) (C := R_Mo) (T := F_Mo) (N := 59) hx hb hts in_Mo t_Mo t_Mo_ok hown (hts _ k_Lw_41) (hts _ ka_Mo) (hts _ kv_Mo) hK hP hD hS hA rfl (by decide) (by decide) (by decide) d_Lw_law_8 (fun q1 H hP hD hS => ?_)
  refine lv_dup hx hb d_Lw_law_11 rfl ?_
  refine WcallN (wr := mk_PM z q0 f) hx hb hml hown hts hNS hA (nc_Mo (l := l) (z := z)) kc_Mo_init kv_Mo k_Lw_43 kin_Mo_init rfl (by decide +kernel) hK hP hD hS [34] [0, 1, 2, 3, 4, 5, 6, 7, 8, 9, 10, 11, 12, 13, 14, 15, 16, 17, 18, 19, 20, 21, 22, 23, 24, 25, 26, 27, 28, 29, 30, 31, 32, 33] rfl rfl (by decide) (by decide) ⟨by decide, by decide⟩ ⟨by decide, by decide⟩ hlv.1 rfl d_Lw_law_12 (fun f2 H locs hP hD hS => ?_)
  refine lv_astore_n (lv' := [(2, .ref q1), (1, .ref q0), (0, .ref b)]) hx hb d_Lw_law_15 rfl hlv (by decide) rfl (fun ls hlv => ?_)
  refine lv_iconst (v := 1) hx hb d_Lw_law_16 (by decide +kernel) ?_
  refine va_newa (D := z.1) (cl := classes) (atype := .long) (ty := .long) (N' := 1) (a0 := (1, .inr (.inl (fun _ => 0)))) hx hb (hts _ kr_long) rfl hK hP hD hS hA (fun _ => rfl) (by decide +kernel) (by decide +kernel) (by decide) (by decide) (by decide) d_Lw_law_17 (fun q2 cA H hK1 hP hD hS => ?_)
  have ecA : cA = z.2.1.2.1 := by
    have h1 : va_RA s cA .long := (hK1.2 4 (cA, .long) rfl).2
    have h2 : va_RA s z.2.1.2.1 .long := (hK.2 1 (z.2.1.2.1, .long) rfl).2
    exact Option.some.inj (h1.symm.trans h2)
  subst ecA
  refine lv_astore_n (lv' := [(3, .ref q2), (2, .ref q1), (1, .ref q0), (0, .ref b)]) hx hb d_Lw_law_19 rfl hlv (by decide) rfl (fun ls hlv => ?_)
  refine lv_iconst (v := nI 0) hx hb d_Lw_law_20 (by decide +kernel) ?_
  refine lv_istore (lv' := [(4, .int (nI 0)), (3, .ref q2), (2, .ref q1), (1, .ref q0), (0, .ref b)]) hx hb d_Lw_law_21 hlv (by decide) rfl (fun ls hlv => ?_)
  have eC : [0, 1, 2, 3, 4, 5, 6, 8, 9, 10, 11, 12, 13, 21, 29, 30, 31, 32, 33, 14, 15, 16, 17, 18, 19, 20, 22, 23, 24, 25, 26, 27, 28].map (fun i => ((mk_PM z q0 f ++ mk_Mo z q1 f2) ++ [(q2, (.inl (z.2.1.2.1, 1, .inr (.inl (fun _ => 0))) : va_E))])[i]?) = (cwT z (aF q0 f) (S00 (uF f 13) (uF f 21) (f 6))).map some := rfl
  have eM : [34, 35, 36, 37, 38, 39, 40, 41, 42, 43, 44, 45, 46, 47, 48, 49, 50, 51, 52, 53, 54, 55, 56, 57, 58, 59, 60, 61, 62, 63, 64, 65, 66, 67, 68, 69, 70, 71, 72, 73].map (fun i => ((mk_PM z q0 f ++ mk_Mo z q1 f2) ++ [(q2, (.inl (z.2.1.2.1, 1, .inr (.inl (fun _ => 0))) : va_E))])[i]?) = (mw z (bF q1 f2) X00).map some := rfl
  have eO : [74].map (fun i => ((mk_PM z q0 f ++ mk_Mo z q1 f2) ++ [(q2, (.inl (z.2.1.2.1, 1, .inr (.inl (fun _ => 0))) : va_E))])[i]?) = [(q2, outE z (fun _ => 0))].map some := rfl
  exact whole_end hlt hx hb hml hown hts hNC hr hlocks hX hbl hL hK (by rw [hkt]; exact hKK) hP hD hS eC eM eO hlv
