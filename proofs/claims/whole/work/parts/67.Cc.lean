/-! ===== entering and leaving a call: class and model ===== -/
/-- the cells with the first i of the stack in frame d -/
def acl (ce st : Nat → Int32) (d : Nat) : Nat → (Nat → Int32)
  | 0 => ce
  | i + 1 => acl (upd ce (d * 12 + i) (st i)) st d i
theorem acl_v {st : Nat → Int32} {d : Nat} : ∀ i ce j, acl ce st d i j = if d * 12 ≤ j ∧ j < d * 12 + i then st (j - d * 12) else ce j := by
  intro i
  induction i with
  | zero => intro ce j; show ce j = _; rw [if_neg (by omega)]
  | succ i ih =>
    intro ce j
    show acl (upd ce (d * 12 + i) (st i)) st d i j = _
    rw [ih]
    by_cases h : d * 12 ≤ j ∧ j < d * 12 + i
    · rw [if_pos h, if_pos (by omega)]
    · rw [if_neg h]
      unfold upd
      by_cases h2 : j = d * 12 + i
      · rw [if_pos h2, if_pos (by omega), show j - d * 12 = i by omega]
      · rw [if_neg h2, if_neg (by omega)]
theorem args_ok {st : Nat → Int32} {c d : Nat} (hd : d ≤ 10) : ∀ i (J : Mc), J.2.2.2.2.2.1 = d → i ≤ 12 → mc_args i (KX J st i c) = KX (acl J.1 st d i, J.2) st 0 c := by
  intro i
  induction i with
  | zero => intro J _ _; rfl
  | succ i ih =>
    intro J hJ hi
    show mc_args i (mc_st (mc_pop (KX J st (i + 1) c)).2 (nI (J.2.2.2.2.2.1 * 12 + i)) (mc_pop (KX J st (i + 1) c)).1) = _
    rw [kx_pop, hJ, st_nI (by omega)]
    exact ih (upd J.1 (d * 12 + i) (st i), J.2) hJ (by omega)
/-- the machine in a new frame -/
def CK (K : Mc) (st : Nat → Int32) (f g w c : Nat) : Mc := (acl (fun j => if (f + 1) * 12 ≤ j ∧ j < (f + 1) * 12 + 12 then nI 0 else K.1 j) st (f + 1) w, va_up K.2.1 (f + 1) g, va_up K.2.2.1 (f + 1) (c + 1), st, w, f + 1, c + 1, K.2.2.2.2.2.2.2.1, K.2.2.2.2.2.2.2.2.1, K.2.2.2.2.2.2.2.2.2.1, K.2.2.2.2.2.2.2.2.2.2.1, max K.2.2.2.2.2.2.2.2.2.2.2 (f + 1))
theorem vm_call {D : Co} {K : Mc} {st : Nat → Int32} {f w c : Nat} (hf : K.2.2.2.2.2.1 = f) (hf10 : f < 10) (hc : c < D.2.2.2.2.2.2.1) (hx : D.1 c = 18) (hw : D.2.2.2.2.1 (D.2.2.1 c) = w) (hw3 : w ≤ 3) : VR D 1 (KX K st w c) (KX (CK K st f (mc_out K (D.2.1 c) f) w c) st 0 (D.2.2.2.1 (D.2.2.1 c))) := by
  refine vm1 hc ?_
  rw [hx]
  show (if K.2.2.2.2.2.1 = 10 then _ else (none, mc_enter D (KX K st w (c + 1)) (mc_out (KX K st w (c + 1)) (D.2.1 c) K.2.2.2.2.2.1) (D.2.2.1 c))) = _
  rw [if_neg (by omega), kx_out, hf]
  have e : mc_args (D.2.2.2.2.1 (D.2.2.1 c)) (mc_clr (mc_in (KX K st w (c + 1)) (mc_out K (D.2.1 c) f)) 12) = KX (CK K st f (mc_out K (D.2.1 c) f) w c) st 0 (c + 1) := by
    rw [hw]
    have e1 : mc_clr (mc_in (KX K st w (c + 1)) (mc_out K (D.2.1 c) f)) 12 = KX (fun j => if (f + 1) * 12 ≤ j ∧ j < (f + 1) * 12 + 12 then nI 0 else K.1 j, va_up K.2.1 (f + 1) (mc_out K (D.2.1 c) f), va_up K.2.2.1 (f + 1) (c + 1), st, w, f + 1, c + 1, K.2.2.2.2.2.2.2.1, K.2.2.2.2.2.2.2.2.1, K.2.2.2.2.2.2.2.2.2.1, K.2.2.2.2.2.2.2.2.2.2.1, max K.2.2.2.2.2.2.2.2.2.2.2 (f + 1)) st w (c + 1) := by
      subst hf; rfl
    rw [e1, args_ok (d := f + 1) (by omega) w _ rfl (by omega)]
    rfl
  unfold mc_enter
  rw [e]
  rfl
theorem vm_callE {D : Co} {K : Mc} {st : Nat → Int32} {τ c : Nat} (hf : K.2.2.2.2.2.1 = 10) (hc : c < D.2.2.2.2.2.2.1) (hx : D.1 c = 18) : VE D 1 (KX K st τ c) IOE (KX K st τ (c + 1)) := by
  refine vmE hc ?_
  rw [hx]
  show (if K.2.2.2.2.2.1 = 10 then _ else _) = _
  rw [if_pos hf]
/-- the machine back in the frame f -/
def LK (K : Mc) (f : Nat) : Mc := (K.1, K.2.1, K.2.2.1, K.2.2.2.1, K.2.2.2.2.1, f, K.2.2.2.2.2.2.1, K.2.2.2.2.2.2.2)
theorem vm_ret {D : Co} {K : Mc} {st : Nat → Int32} {τ c f : Nat} (hf : K.2.2.2.2.2.1 = f + 1) (hc : c < D.2.2.2.2.2.2.1) (hx : D.1 c = 19) : VR D 1 (KX K st τ c) (KX (LK K f) st τ (K.2.2.1 (f + 1))) := by
  refine vm1 hc ?_
  rw [hx]
  show (none, mc_leave D (KX K st τ (c + 1))) = _
  unfold mc_leave
  rw [if_neg (show ¬ (KX K st τ (c + 1)).2.2.2.2.2.1 = 0 by show ¬ K.2.2.2.2.2.1 = 0; omega)]
  have e1 : (KX K st τ (c + 1)).2.2.2.2.2.1 = f + 1 := hf
  rw [e1]
  rfl
theorem i32n_nI {p : Nat} (h : p < 132) : i32n (nI p) = p := by
  show (BitVec.ofNat 32 p).toNat = p
  rw [BitVec.toNat_ofNat]
  exact Nat.mod_eq_of_lt (by omega)
section CC
variable {Y : MS2} {K : Mc} {X : MS} {f : Nat}
theorem lsl_inj {s s' : Nat} (hh : Y.2.2.1 s = Y.2.2.1 s') (h3 : Y.2.1 s ≠ 3) (h3' : Y.2.1 s' ≠ 3) (hne : s ≠ s') : lsl Y s ≠ lsl Y s' ∧ gsl Y s ≠ gsl Y s' := by
  rcases Nat.lt_or_ge s s' with z | z
  · have a1 := cnt_lt (p := vAll Y) z (decide_eq_true h3)
    have a2 := cnt_lt (p := vIn Y (Y.2.2.1 s')) z (by unfold vIn; simp [hh, h3])
    unfold lsl gsl
    rw [hh]
    omega
  · have a1 := cnt_lt (p := vAll Y) (show s' < s by omega) (decide_eq_true h3')
    have a2 := cnt_lt (p := vIn Y (Y.2.2.1 s)) (show s' < s by omega) (by unfold vIn; simp [hh.symm, h3'])
    unfold lsl gsl
    rw [← hh]
    omega
theorem pce_v {gv ce : Nat → Int32} {d s : Nat} : ∀ k i, (∀ j, j < k → i ≠ 12 * d + gsl Y (s + 1 + j)) → pce Y gv ce d s k i = ce i := by
  intro k
  induction k with
  | zero => intro i _; rfl
  | succ k ih =>
    intro i h
    show upd (pce Y gv ce d s k) (12 * d + gsl Y (s + 1 + k)) (gv k) i = _
    unfold upd
    rw [if_neg (h k (by omega))]
    exact ih i fun j hj => h j (by omega)
theorem psd_v {gv : Nat → Int32} {sd : Nat → Nat} {d s : Nat} : ∀ k i, (∀ j, j < k → i ≠ 12 * d + gsl Y (s + 1 + j)) → psd Y gv sd d s k i = sd i := by
  intro k
  induction k with
  | zero => intro i _; rfl
  | succ k ih =>
    intro i h
    show va_up (psd Y gv sd d s k) (12 * d + gsl Y (s + 1 + k)) (i32n (gv k)) i = _
    unfold va_up
    rw [if_neg (h k (by omega))]
    exact ih i fun j hj => h j (by omega)
theorem pce_p {gv ce : Nat → Int32} {sd : Nat → Nat} {d s : Nat} : ∀ k j, j < k → (∀ j', j' < k → j' ≠ j → gsl Y (s + 1 + j') ≠ gsl Y (s + 1 + j)) → pce Y gv ce d s k (12 * d + gsl Y (s + 1 + j)) = gv j ∧ psd Y gv sd d s k (12 * d + gsl Y (s + 1 + j)) = i32n (gv j) := by
  intro k
  induction k with
  | zero => intro j h; omega
  | succ k ih =>
    intro j hj hne
    show upd (pce Y gv ce d s k) (12 * d + gsl Y (s + 1 + k)) (gv k) _ = _ ∧ va_up (psd Y gv sd d s k) (12 * d + gsl Y (s + 1 + k)) (i32n (gv k)) _ = _
    rcases Nat.lt_or_ge j k with z | z
    · have n1 := hne k (by omega) (by omega)
      have r := ih j z fun j' h1 h2 => hne j' (by omega) h2
      unfold upd va_up
      rw [if_neg (by omega), if_neg (by omega)]
      exact r
    · have : j = k := by omega
      subst this
      exact ⟨upd_same _ _ _, va_same _ _ _⟩
/-- the model in the new frame -/
def EX2 (Y : MS2) (X : MS) (f g b s w p : Nat) : MS := NX X (some (f + 1)) (va_up (r_blockOf X) (f + 1) b) (va_up (r_outer X) (f + 1) (some g)) (va_up (r_back X) (f + 1) (r_pc X)) (va_up (r_level X) (f + 1) 0) (max (r_greatest X) (f + 1)) (pce Y (r_given X) (clr (r_cell X) (f + 1) 12) (f + 1) s w) (psd Y (r_given X) (r_stands X) (f + 1) s w) p
theorem sim_enter {D : Co} {st : Nat → Int32} {g s w c p : Nat} (h12 : cnt (vAll Y) Y.2.2.2.2.2.1 ≤ 12) (h6 : cnt (pAll Y) Y.2.2.2.2.2.1 ≤ 6) (hPH : PH D Y) (hRF : RF Y) (hS : SIM Y K X f) (hf : f < 10) (hs : s < Y.2.2.2.2.2.1) (h3 : Y.2.1 s = 3) (hw : Y.2.2.2.2.1 s = w) (hg : g ≤ f) (hgb : r_blockOf X g = Y.2.2.1 s) (ha : ∀ j, j < w → ARG Y X f s st (r_given X) j) : SIM Y (CK K st f g w c) (EX2 Y X f g (Y.2.2.2.1 s) s w p) (f + 1) := by
  obtain ⟨s1, s2, s3, ⟨o1, o2, o3, o4, o5, o6, o7, o8⟩, s5, s6⟩ := hS
  obtain ⟨q, p1, p2, p3, p4⟩ := hPH s hs h3
  have qw := q.2.1
  have q6 := q.2.2.2.2.2
  rw [hw] at qw q6 p4
  have bo : ∀ x, x ≤ f → r_blockOf (EX2 Y X f g (Y.2.2.2.1 s) s w p) x = r_blockOf X x := fun x hx => by show va_up (r_blockOf X) (f + 1) _ x = _; unfold va_up; rw [if_neg (by omega)]
  have boN : r_blockOf (EX2 Y X f g (Y.2.2.2.1 s) s w p) (f + 1) = Y.2.2.2.1 s := va_same _ _ _
  have par3 : ∀ k, k < w → Y.2.1 (s + 1 + k) ≠ 3 := fun k hk => by rcases (p4 k hk).2.1 with z | z <;> omega
  have cor : ∀ {x a b}, x ≤ f → COR Y X x a b → COR Y (EX2 Y X f g (Y.2.2.2.1 s) s w p) x a b := by
    intro x a b hx hc
    obtain ⟨g', s', z1, z2, z3, z4⟩ := hc
    exact ⟨g', s', z1, z2, by rw [bo g' (by omega)]; exact z3, z4⟩
  have rk6 := cnt_lt (p := pAll Y) hs (decide_eq_true h3)
  refine ⟨rfl, rfl, by omega, ⟨o1, o2, o3, o4, o5, o6, ?_, ?_⟩, ?_, ?_⟩
  · show max (r_greatest X) (f + 1) = max K.2.2.2.2.2.2.2.2.2.2.2 (f + 1); rw [o7]
  · show max K.2.2.2.2.2.2.2.2.2.2.2 (f + 1) ≤ 10; omega
  · intro x hx
    rcases Nat.lt_or_ge x (f + 1) with z | z
    · have c := s5 x (by omega)
      rw [bo x (by omega)]
      refine ⟨c.1, fun b' hb' => ?_⟩
      obtain ⟨h, c1, c2, c3, c4⟩ := c.2 b' hb'
      refine ⟨h, c1, ?_, ?_, by rw [bo h (by omega)]; exact c4⟩
      · show va_up (r_outer X) (f + 1) _ x = _; unfold va_up; rw [if_neg (by omega)]; exact c2
      · show va_up K.2.1 (f + 1) _ x = _; unfold va_up; rw [if_neg (by omega)]; exact c3
    · have : x = f + 1 := by omega
      subst this
      rw [boN]
      refine ⟨by omega, fun b' hb' => ?_⟩
      rw [p2] at hb'
      cases hb'
      exact ⟨g, by omega, va_same _ _ _, va_same _ _ _, by rw [bo g hg]; exact hgb⟩
  · intro x s' hx hs' hh h3'
    have gl := gsl_lt h12 hs' h3'
    have ll := lsl_le (Y := Y) (s := s')
    show (Y.2.1 s' ≠ 2 → acl _ st (f + 1) w (12 * x + lsl Y s') = pce Y (r_given X) (clr (r_cell X) (f + 1) 12) (f + 1) s w (12 * x + gsl Y s')) ∧ (Y.2.1 s' = 2 → ∃ a p', COR Y (EX2 Y X f g (Y.2.2.2.1 s) s w p) x a p' ∧ acl _ st (f + 1) w (12 * x + lsl Y s') = nI a ∧ psd Y (r_given X) (r_stands X) (f + 1) s w (12 * x + gsl Y s') = p')
    rcases Nat.lt_or_ge x (f + 1) with z | z
    · have hh' : Y.2.2.1 s' = r_blockOf X x := by rw [hh]; exact bo x (by omega)
      have m1 := s6 x s' (by omega) hs' hh' h3'
      rw [acl_v, if_neg (by omega), if_neg (by omega), pce_v w _ (fun j hj => by omega), psd_v w _ (fun j hj => by omega)]
      have ec : clr (r_cell X) (f + 1) 12 (12 * x + gsl Y s') = r_cell X (12 * x + gsl Y s') := by unfold clr; rw [if_neg (by omega)]
      rw [ec]
      refine ⟨m1.1, fun z2 => ?_⟩
      obtain ⟨a, p', w1, w2, w3⟩ := m1.2 z2
      exact ⟨a, p', cor (by omega) w1, w2, w3⟩
    · have : x = f + 1 := by omega
      subst this
      have hh' : Y.2.2.1 s' = Y.2.2.2.1 s := hh.trans boN
      by_cases hp : ∃ k, k < w ∧ s' = s + 1 + k
      · obtain ⟨k, hk, rfl⟩ := hp
        have lk : lsl Y (s + 1 + k) = k := by unfold lsl; rw [(p4 k hk).1]; exact (p4 k hk).2.2
        have pc := pce_p (Y := Y) (gv := r_given X) (ce := clr (r_cell X) (f + 1) 12) (sd := r_stands X) (d := f + 1) (s := s) w k hk (fun j' h1 h2 => (lsl_inj ((p4 j' h1).1.trans (p4 k hk).1.symm) (par3 j' h1) (par3 k hk) (by omega)).2)
        rw [pc.1, pc.2, lk, acl_v, if_pos (by omega), show 12 * (f + 1) + k - (f + 1) * 12 = k by omega]
        have ak := ha k hk
        refine ⟨ak.1, fun z2 => ?_⟩
        obtain ⟨a, p', w1, w2, w3⟩ := ak.2 z2
        have pl := cor_lt h12 s3 w1
        refine ⟨a, p', ?_, w2, by rw [w3, i32n_nI pl.2]⟩
        obtain ⟨g', s'', y1, y2, y3, y4⟩ := cor (Nat.le_refl _) w1
        exact ⟨g', s'', by omega, y2, y3, y4⟩
      · have nr : Y.2.1 s' ≠ 2 := by
          intro z2
          obtain ⟨s9, k9, r1, r2, r3, r4⟩ := hRF s' hs' z2
          obtain ⟨_, t1, _, _, t4⟩ := hPH s9 r1 r2
          have t5 := (t4 k9 r3).1
          rw [← r4, hh', p1, t1] at t5
          have : s9 = s := by
            rcases Nat.lt_trichotomy s9 s with y | y | y
            · have := cnt_lt (p := pAll Y) y (decide_eq_true r2); omega
            · exact y
            · have := cnt_lt (p := pAll Y) y (decide_eq_true h3); omega
          subst this
          exact hp ⟨k9, by omega, r4⟩
        have lne : ∀ k, k < w → lsl Y s' ≠ k ∧ gsl Y s' ≠ gsl Y (s + 1 + k) := fun k hk => by
          have i := lsl_inj (hh'.trans (p4 k hk).1.symm) h3' (par3 k hk) (fun y => hp ⟨k, hk, y⟩)
          have lk : lsl Y (s + 1 + k) = k := by unfold lsl; rw [(p4 k hk).1]; exact (p4 k hk).2.2
          rw [lk] at i
          exact i
        have lw : w ≤ lsl Y s' := by
          rcases Nat.lt_or_ge (lsl Y s') w with y | y
          · exact absurd rfl (lne _ y).1
          · exact y
        refine ⟨fun _ => ?_, fun y => absurd y nr⟩
        rw [acl_v, if_neg (by omega), if_pos (by omega), pce_v w _ (fun j hj => by have := (lne j hj).2; omega)]
        unfold clr
        rw [if_pos (by omega)]
end CC
