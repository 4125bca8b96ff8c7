/-! ===== the law from its entry ===== -/
def T00 (t : Nat) : Tk := (fun _ => none, fun _ => 0, fun _ => 0, t, 0, 0, 0)
def N00 : Nm := (fun _ => 0, fun _ => 0, fun _ => 0, fun _ => 0, fun _ => 0, 0, 0, 0, 0)
def C00 : Co := (fun _ => 0, fun _ => 0, fun _ => 0, fun _ => 0, fun _ => 0, fun _ => 0, 0, 0)
def M00 : Mc := (fun _ => 0, fun _ => 0, fun _ => 0, fun _ => 0, 0, 0, 0, fun _ => 0, 0, 0, 0, 0)
def S00 (u w : Nat → Nat) (t : Nat) : CST := (u, w, (fun _ => 0, 0, false), -1, T00 t, N00, C00, C00, M00)
def X00 : MS := ((0, fun _ => 0, 0, -1, false), (fun _ => 0, fun _ => 0, fun _ => 0, fun _ => 0, fun _ => 0, fun _ => 0, 0), (fun _ => 0, fun _ => 0, fun _ => 0, fun _ => 0, fun _ => 0, 0, 0, 0, fun _ => some 0, fun _ => 0, 0, 0), (fun _ => 0, fun _ => 0, fun _ => 0, fun _ => 0, fun _ => 0, fun _ => 0, fun _ => 0, fun _ => 0, fun _ => 0), (0, some 0, fun _ => 0, fun _ => 0, 0), (fun _ => 0, fun _ => 0, fun _ => 0, fun _ => some 0, fun _ => 0, fun _ => 0, fun _ => 0, fun _ => 0, some 0, 0, 0, 0, 0, 0, fun _ => 0, 0), (fun _ => 0, fun _ => 0, fun _ => 0, fun _ => 0, fun _ => 0))
theorem rel_00 (u w : Nat → Nat) (t : Nat) : REL (S00 u w t) X00 := by
  have hN : NmOk N00 := ⟨Nat.le_refl _, Nat.zero_le _, Nat.zero_le _, by decide, fun _ => by show 0 < 4; decide, fun _ => Nat.zero_le _, fun _ h => absurd h (by show ¬ 0 = 2; decide), fun _ _ _ _ => Nat.le_refl _, fun _ _ => Nat.le_refl _⟩
  have hC : CoOk C00 := ⟨Nat.zero_le _, fun _ => Nat.zero_le _, fun _ => by show 0 < 8; decide, fun _ => Nat.zero_le _⟩
  have hK : KO C00 := ⟨fun _ => ⟨by show 0 < 2 ^ 31; decide, fun _ => by show 0 < 6; decide⟩, fun _ => by show 0 < 2 ^ 31; decide⟩
  have hM : McOk M00 := ⟨fun _ _ => by show 0 < 11; decide, by decide, by decide, by decide, by decide, by decide, by decide, fun _ _ => by show 0 < 2 ^ 31; decide⟩
  refine ⟨⟨rfl, Nat.zero_le _, fun _ h => absurd h (Nat.not_lt_zero _), fun _ => by show 0 < 128; decide⟩, rfl, rfl, hN, ⟨hC, hK⟩, ⟨hC, hK⟩, hM, ⟨rfl, Nat.zero_le _, fun _ h => absurd h (Nat.not_lt_zero _), rfl, rfl, Nat.zero_le _, rfl, Nat.zero_le _⟩, fun h => ?_⟩
  exact absurd h (by show ¬ false = true; decide)
def aF (q : Nat) (f : Nat → Nat) : Nat → Nat := fun k => [q, f 0, f 1, f 2, f 3, f 4, f 5, f 7, f 8, f 9, f 10, f 11, f 12, f 20, f 28, f 29, f 30, f 31, f 32].getD k 0
def uF (f : Nat → Nat) (d : Nat) : Nat → Nat := fun k => [f d, f (d + 1), f (d + 2), f (d + 3), f (d + 4), f (d + 5), f (d + 6)].getD k 0
def bF (q : Nat) (f : Nat → Nat) : Nat → Nat := fun k => match k with
  | 0 => q
  | k + 1 => f k
theorem in_law : ∀ w ∈ gt, w ∈ lw_tbl := fun w h => (List.mem_filter.mp h).1
theorem in_tab : ∀ w ∈ tables_1, w ∈ lw_tbl := fun w h => List.mem_append_right _ h
theorem exN_not : ∀ A ∈ exN, ∀ B ∈ exN, A ≠ B → Cond.not (.castable A B) ∈ FL := by
  have h : exN.all (fun A => exN.all (fun B => decide (A = B) || decide (Cond.not (.castable A B) ∈ FL))) = true := by decide +kernel
  intro A hA B hB hne
  have h1 := List.all_eq_true.mp (List.all_eq_true.mp h A hA) B hB
  rw [Bool.or_eq_true, decide_eq_true_iff, decide_eq_true_iff] at h1
  exact h1.resolve_left hne
theorem exN_yes : ∀ A ∈ exN, Cond.castable A A ∈ tables_1 := by
  have h : exN.all (fun A => decide (Cond.castable A A ∈ tables_1)) = true := by decide +kernel
  exact fun A hA => of_decide_eq_true (List.all_eq_true.mp h A hA)
theorem KK.narrow {A B : Nat → Prop} {q : Kt} {U : State} {H : Heap} (h : KK A q U H) (hAB : ∀ x, B x → A x) : KK B q U H := by
  obtain ⟨h1, h2, h3, h4, h5, h6, h7, h8, h9, h10⟩ := h
  have ks : ∀ {C n d : String}, Ks C n d A U H → Ks C n d B U H := by
    intro C n d h
    obtain ⟨c, k, i, f, a, ce, v, g1, g2, g3, g4, g5, g6, g7, g8, g9, g10, g11, g12⟩ := h
    exact ⟨c, k, i, f, a, ce, v, g1, g2, g3, g4, g5, g6, g7, g8, g9, g10, g11, fun x => g12 (hAB _ x)⟩
  refine ⟨fun i hi => ?_, h2.narrow hAB, h3.narrow hAB, h4.narrow hAB, h5.narrow hAB, h6.narrow hAB, h7.narrow hAB, ks h8, ks h9, h10⟩
  obtain ⟨a1, a2, a3, a4, a5, a6, a7, a8⟩ := h1 i hi
  exact ⟨a1.narrow hAB, a2.narrow hAB, a3.narrow hAB, a4.narrow hAB, a5.narrow hAB, a6.narrow hAB, a7.narrow hAB, a8.narrow hAB⟩
set_option maxHeartbeats 8000000 in
set_option maxRecDepth 100000 in
/-- behind the makings: the loop begins -/
theorem whole_end {p : Program} {l : Launch} {e : Env} {s : State} {m : MethodId} {below : List Frame} {meth : Method} {c : Code} {b L : Nat} {xs : Nat → Int32} {z : Zt} {a bM u w : Nat → Nat} {o t : Nat} {ws : va_W} {H : Heap} {locs : List Loc} {ls : Array Slot} {cells slots : Nat} (hlt : l.stackTraces = false) (hx : p.tables.exec = Jvm.exec) (hb : c.code = b_Lw_law) (hml : c.maxLocals = 7) (hown : s.vm.findClass "PascalMachineLaw" = some m.cls) (hts : ∀ w ∈ gt, w.before #[Value.ref b] s = true) (hNC : NCs s) (hr : meth.sig.returnType = ret) (hlocks : meth.locks = false) (hX : va_X b L xs s s.heap) (hbl : b < s.heap.size) (hL : L ≤ 2048) (hK : va_K z.1 classes (Gz z).2.1 s) (hKK : KK (NF s) z.2.2.2 s s.heap) (hP : va_P z.1 classes ws H) (hD : va_D (NF s) ws) (hS : va_S (NF s) s.heap H locs)
    (eC : [0, 1, 2, 3, 4, 5, 6, 8, 9, 10, 11, 12, 13, 21, 29, 30, 31, 32, 33, 14, 15, 16, 17, 18, 19, 20, 22, 23, 24, 25, 26, 27, 28].map (fun i => ws[i]?) = (cwT z a (S00 u w t)).map some) (eM : [34, 35, 36, 37, 38, 39, 40, 41, 42, 43, 44, 45, 46, 47, 48, 49, 50, 51, 52, 53, 54, 55, 56, 57, 58, 59, 60, 61, 62, 63, 64, 65, 66, 67, 68, 69, 70, 71, 72, 73].map (fun i => ws[i]?) = (mw z bM X00).map some) (eO : [74].map (fun i => ws[i]?) = [(o, outE z (fun _ => 0))].map some) (hlv : lv_has ls 7 [(4, .int (nI 0)), (3, .ref o), (2, .ref (bM 0)), (1, .ref (a 0)), (0, .ref b)]) (hc : cells ≤ 1000 := by decide) (hs : slots ≤ 10000 := by decide) : W p l e room_1 s m #[Value.ref b] below meth c H locs cells slots (lw_Z below #[Value.ref b] s) (F0 m 23 ls []) := by
  refine W.widen (k := 1000 + 0) (n := 10000 + 6 * 0) (by omega) (by omega) ?_
  have iO : adr [(o, outE z (fun _ => 0))] o := ⟨0, _, rfl⟩
  have L0 : LX p l s m #[Value.ref b] c (z.1, z.2.1, adr (cwT z a (S00 u w t)), z.2.2.2) (z.1, z.2.1, adr (mw z bM X00), z.2.2.2) o := by
    refine ⟨⟨hx, hb, hml, hown, hts⟩, ⟨rfl, rfl⟩, ⟨sub_in hD eC, sub_in hD eM, sub_in hD eO o iO, sub_apart hD eC eM (by decide), fun h => ?_, fun h => ?_⟩, hKK.narrow (sub_in hD eC), hKK.narrow (sub_in hD eM), hNC⟩
    · exact sub_apart hD eC eO (by decide) o h iO
    · exact sub_apart hD eM eO (by decide) o h iO
  have hI : LI s (z.1, z.2.1, adr (cwT z a (S00 u w t)), z.2.2.2) (z.1, z.2.1, adr (mw z bM X00), z.2.2.2) a bM o (S00 u w t) X00 (fun _ => 0) H := by
    refine ⟨?_, ?_, ?_⟩
    · exact KI.of hK hP hD (by decide) eC
    · exact KI.of hK hP hD (by decide) eM
    · exact sub_P hP eO 0 _ rfl
  exact law_loop hlt L0 hr hlocks hX hbl hL (L + 1) 0 (S00 u w t) X00 (fun _ => 0) H locs ls (by omega) (by omega) (rel_00 u w t) hI hS (lv_sub hlv [4, 3, 2, 1, 0] rfl)
