/-! ===== the running machine and the running model ===== -/
/-- the slot of a variable in its frame: the class's, the model's -/
def lsl (Y : MS2) (s : Nat) : Nat := cnt (vIn Y (Y.2.2.1 s)) s
def gsl (Y : MS2) (s : Nat) : Nat := cnt (vAll Y) s
/-- the model's program is what was read -/
def RG (T : Tk) (m : Nat) (Y : MS2) (μ ν : Nat → Nat) (X : MS) : Prop := RT T m X ∧ (∀ s, s < 18 → r_pSort X s = Y.2.1 s ∧ r_pHome X s = Y.2.2.1 s ∧ r_pOwn X s = Y.2.2.2.1 s ∧ r_pWants X s = Y.2.2.2.2.1 s) ∧ (∀ b, b < 8 → r_pBody X b = Y.2.2.2.2.2.2.2.2.2.1 b) ∧ ∀ t, t < 155 → r_pMeans X t = μ t ∧ r_pNext X t = ν t
/-- the chains of frames are alike -/
def CH (Y : MS2) (K : Mc) (X : MS) (f : Nat) : Prop := ∀ g, g ≤ f → r_blockOf X g ≤ 7 ∧ ∀ b', Y.2.2.2.2.2.2.2.2.1 (r_blockOf X g) = some b' → ∃ h, h < g ∧ r_outer X g = some h ∧ K.2.1 g = h ∧ r_blockOf X h = b'
/-- an address of the class's and a place of the model's that are the same variable's -/
def COR (Y : MS2) (X : MS) (g a p : Nat) : Prop := ∃ g' s', g' ≤ g ∧ s' < Y.2.2.2.2.2.1 ∧ Y.2.2.1 s' = r_blockOf X g' ∧ Y.2.1 s' ≠ 3 ∧ Y.2.1 s' ≠ 2 ∧ a = 12 * g' + lsl Y s' ∧ p = 12 * g' + gsl Y s'
def MEM (Y : MS2) (K : Mc) (X : MS) (f : Nat) : Prop := ∀ g s, g ≤ f → s < Y.2.2.2.2.2.1 → Y.2.2.1 s = r_blockOf X g → Y.2.1 s ≠ 3 → (Y.2.1 s ≠ 2 → K.1 (12 * g + lsl Y s) = r_cell X (12 * g + gsl Y s)) ∧ (Y.2.1 s = 2 → ∃ a p, COR Y X g a p ∧ K.1 (12 * g + lsl Y s) = nI a ∧ r_stands X (12 * g + gsl Y s) = p)
/-- what a call of count or output shows -/
def OBS (K : Mc) (X : MS) : Prop := r_written X = K.2.2.2.2.2.2.2.2.1 ∧ K.2.2.2.2.2.2.2.2.1 ≤ 32 ∧ (∀ j, j < K.2.2.2.2.2.2.2.2.1 → r_output X j = K.2.2.2.2.2.2.2.1 j) ∧ r_lost X = K.2.2.2.2.2.2.2.2.2.1 ∧ r_steps X = K.2.2.2.2.2.2.2.2.2.2.1 ∧ K.2.2.2.2.2.2.2.2.2.2.1 ≤ 400 ∧ r_greatest X = K.2.2.2.2.2.2.2.2.2.2.2 ∧ K.2.2.2.2.2.2.2.2.2.2.2 ≤ 10
def SIM (Y : MS2) (K : Mc) (X : MS) (f : Nat) : Prop := r_frame X = some f ∧ K.2.2.2.2.2.1 = f ∧ f ≤ 10 ∧ OBS K X ∧ CH Y K X f ∧ MEM Y K X f
theorem nI_132 {n : Nat} (h : n < 132) : ¬ (nI n < 0 ∨ nI 132 ≤ nI n) := by
  intro q
  rcases q with q | q
  · exact nI_pos (by omega) q
  · have := (nI_leI (by decide) (by omega)).mp q
    omega
theorem ld_nI {K : Mc} {n : Nat} (h : n < 132) : mc_ld K (nI n) = K.1 n := by
  unfold mc_ld
  rw [if_neg (nI_132 h), nI_clamp (by omega)]
theorem st_nI {K : Mc} {n : Nat} {v : Int32} (h : n < 132) : mc_st K (nI n) v = (upd K.1 n v, K.2) := by
  unfold mc_st
  rw [if_neg (nI_132 h), nI_clamp (by omega)]
section SMs
variable {Y : MS2} {K : Mc} {X : MS} {f : Nat}
theorem gsl_lt {s : Nat} (h12 : cnt (vAll Y) Y.2.2.2.2.2.1 ≤ 12) (hs : s < Y.2.2.2.2.2.1) (h3 : Y.2.1 s ≠ 3) : gsl Y s < 12 := by
  have := cnt_lt (p := vAll Y) hs (decide_eq_true h3)
  unfold gsl
  omega
theorem lsl_le {s : Nat} : lsl Y s ≤ gsl Y s := cnt_imp fun k _ h => by
  unfold vIn at h
  unfold vAll
  simp only [Bool.and_eq_true] at h
  exact h.2
theorem chain_ok {N : Nm} {bl : Nat → Nat} (hB : BL N bl Y) (hC : CH Y K X f) (hf : r_blockOf X f = bl N.2.2.2.2.2.2.1) (hf11 : f < 11) : ∀ h, h ≤ N.2.2.2.2.2.2.1 → mc_out K h f ≤ f ∧ r_blockOf X (mc_out K h f) = bl (N.2.2.2.2.2.2.1 - h) ∧ ∃ n, mo_runOf_go (bl (N.2.2.2.2.2.2.1 - h)) n 0 f X (mc_out K h f) X := by
  have main : ∀ h g l, g ≤ f → l ≤ N.2.2.2.2.2.2.1 → h ≤ l → r_blockOf X g = bl l → mc_out K h g ≤ g ∧ r_blockOf X (mc_out K h g) = bl (l - h) ∧ ∃ n, mo_runOf_go (bl (l - h)) n 0 g X (mc_out K h g) X := by
    intro h
    induction h with
    | zero =>
      intro g l hg hl _ hb
      have c := hC g hg
      refine ⟨Nat.le_refl _, hb, 1, ?_⟩
      rw [mo_runOf_go]
      show g < 11 ∧ _
      have e : l - 0 = l := by omega
      rw [e]
      exact ⟨by omega, by omega, by omega, Or.inl ⟨hb, rfl, rfl⟩⟩
    | succ h ih =>
      intro g l hg hl hh hb
      have c := hC g hg
      obtain ⟨l', rfl⟩ : ∃ l', l = l' + 1 := ⟨l - 1, by omega⟩
      obtain ⟨g', c1, c2, c3, c4⟩ := c.2 (bl l') (by rw [hb]; exact (hB.2.2 l' (by omega)).2)
      have r := ih g' l' (by omega) (by omega) (by omega) c4
      have e : mc_out K (h + 1) g = mc_out K h g' := by show mc_out K h (K.2.1 g) = _; rw [c3]
      have e2 : l' + 1 - (h + 1) = l' - h := by omega
      rw [e, e2]
      refine ⟨by omega, r.2.1, ?_⟩
      obtain ⟨n, hn⟩ := r.2.2
      refine ⟨n + 1, ?_⟩
      rw [mo_runOf_go]
      have hlt : bl (l' - h) < bl (l' + 1) := hB.mono (by omega) hl
      exact ⟨by omega, by omega, by omega, Or.inr ⟨by omega, by omega, g', c2, hn⟩⟩
  intro h hh
  exact main h f _ (Nat.le_refl _) (Nat.le_refl _) hh hf
theorem slot_ok {T : Tk} {m : Nat} {μ ν : Nat → Nat} (hG : RG T m Y μ ν X) (h3 : ∀ s, s < Y.2.2.2.2.2.1 → Y.2.1 s ≤ 3) (h18 : Y.2.2.2.2.2.1 ≤ 18) {s : Nat} (hs : s ≤ Y.2.2.2.2.2.1) : mo_slot s X (gsl Y s) X := by
  have main : ∀ j k, k + j = s → ∃ n, mo_slot_go s n 0 (cnt (vAll Y) k) k X (cnt (vAll Y) s) X := by
    intro j
    induction j with
    | zero =>
      intro k hk
      have : k = s := by omega
      subst this
      refine ⟨1, ?_⟩
      rw [mo_slot_go]
      exact ⟨by omega, by omega, Or.inl ⟨Nat.le_refl _, rfl, rfl⟩⟩
    | succ j ih =>
      intro k hk
      obtain ⟨n, hn⟩ := ih (k + 1) (by omega)
      refine ⟨n + 1, ?_⟩
      rw [mo_slot_go]
      have e := (hG.2.1 k (by omega)).1
      have e3 := h3 k (by omega)
      refine ⟨by omega, by omega, Or.inr ⟨by omega, by omega, by omega, ?_⟩⟩
      have ec : cnt (vAll Y) (k + 1) = cnt (vAll Y) k + if vAll Y k = true then 1 else 0 := rfl
      by_cases hk3 : Y.2.1 k = 3
      · refine Or.inl ⟨e.trans hk3, ?_⟩
        have : vAll Y k = false := by unfold vAll; simp [hk3]
        rw [this] at ec
        rw [ec] at hn
        exact hn
      · refine Or.inr ⟨fun q => hk3 (e.symm.trans q), ?_⟩
        have : vAll Y k = true := by unfold vAll; simp [hk3]
        rw [this] at ec
        rw [ec] at hn
        exact hn
  exact main s 0 (by omega)
/-- where a name's variable is, in both -/
theorem place_ok {T : Tk} {m : Nat} {μ ν : Nat → Nat} {N : Nm} {σ bl : Nat → Nat} {i : Nat} (hG : RG T m Y μ ν X) (h3 : ∀ s, s < Y.2.2.2.2.2.1 → Y.2.1 s ≤ 3) (h18 : Y.2.2.2.2.2.1 ≤ 18) (h12 : cnt (vAll Y) Y.2.2.2.2.2.1 ≤ 12) (oN : NmOk N) (hB : BL N bl Y) (hK : NK N σ bl Y) (hS : SIM Y K X f) (hf : r_blockOf X f = bl N.2.2.2.2.2.2.1) (hi : i < N.2.2.2.2.2.1) (h2 : N.2.1 i ≠ 2) :
    ∃ a p, COR Y X f a p ∧ (∀ pc fl su te ss ts, mo_place (σ i) (VX X pc fl su te ss ts) p (VX X pc fl su te ss ts)) ∧ (N.2.1 i = 1 → mc_ld K (nI (mc_addr K (N.2.2.2.2.2.2.1 - N.2.2.1 i) (N.2.2.2.1 i))) = nI a) ∧ (N.2.1 i ≠ 1 → mc_addr K (N.2.2.2.2.2.2.1 - N.2.2.1 i) (N.2.2.2.1 i) = a) := by
  obtain ⟨s1, s2, s3, s4, s5, s6⟩ := hS
  have k := hK i hi
  have hl := oN.2.2.2.2.2.2.2.2 i hi
  have hso : Y.2.1 (σ i) ≠ 3 := by rcases k.2.2.2.1 with q | q | q <;> omega
  have hs := k.1
  have ch := chain_ok hB s5 hf (by omega) (N.2.2.2.2.2.2.1 - N.2.2.1 i) (by omega)
  have el : N.2.2.2.2.2.2.1 - (N.2.2.2.2.2.2.1 - N.2.2.1 i) = N.2.2.1 i := by omega
  rw [el] at ch
  obtain ⟨c1, c2, c3⟩ := ch
  have gl := gsl_lt h12 hs hso
  have ll := lsl_le (Y := Y) (s := σ i)
  have hnum : N.2.2.2.1 i = lsl Y (σ i) := by rw [k.2.2.2.2.2 h2]; unfold lsl; rw [k.2.2.1]
  have had : mc_addr K (N.2.2.2.2.2.2.1 - N.2.2.1 i) (N.2.2.2.1 i) = 12 * mc_out K (N.2.2.2.2.2.2.1 - N.2.2.1 i) f + lsl Y (σ i) := by
    unfold mc_addr
    rw [s2, hnum]
    omega
  have hm := s6 (mc_out K (N.2.2.2.2.2.2.1 - N.2.2.1 i) f) (σ i) c1 hs (k.2.2.1.trans c2.symm) hso
  have e := hG.2.1 (σ i) (by omega)
  have hrun : ∀ pc fl su te ss ts, mo_runOf (r_pHome (VX X pc fl su te ss ts) (σ i)) (VX X pc fl su te ss ts) (mc_out K (N.2.2.2.2.2.2.1 - N.2.2.1 i) f) (VX X pc fl su te ss ts) := by
    intro pc fl su te ss ts
    have e1 : r_pHome (VX X pc fl su te ss ts) (σ i) = bl (N.2.2.1 i) := e.2.1.trans k.2.2.1
    rw [e1]
    have ch := chain_ok (X := VX X pc fl su te ss ts) hB s5 hf (by omega) (N.2.2.2.2.2.2.1 - N.2.2.1 i) (by omega)
    rw [el] at ch
    exact ⟨f, s1, ch.2.2⟩
  have hslot : ∀ pc fl su te ss ts, mo_slot (σ i) (VX X pc fl su te ss ts) (gsl Y (σ i)) (VX X pc fl su te ss ts) := fun pc fl su te ss ts => slot_ok (X := VX X pc fl su te ss ts) hG h3 h18 (Nat.le_of_lt hs)
  by_cases hr : Y.2.1 (σ i) = 2
  · obtain ⟨a, p, q1, q2, q3⟩ := hm.2 hr
    have hk1 : N.2.1 i = 1 := by rcases k.2.2.2.1 with z | z | z <;> omega
    have cor : COR Y X f a p := by
      obtain ⟨g', s', z1, z⟩ := q1
      exact ⟨g', s', by omega, z⟩
    refine ⟨a, p, cor, ?_, fun _ => ?_, fun z => absurd hk1 z⟩
    · intro pc fl su te ss ts
      refine ⟨by omega, _, _, hrun _ _ _ _ _ _, _, _, hslot _ _ _ _ _ _, by omega, (show r_pSort X (σ i) < 2147483648 by rw [e.1]; omega), Or.inl ⟨e.1.trans hr, by omega, q3.symm, rfl⟩⟩
    · rw [had]
      rw [ld_nI (by omega)]
      exact q2
  · have hk1 : N.2.1 i ≠ 1 := by rcases k.2.2.2.1 with z | z | z <;> omega
    refine ⟨12 * mc_out K (N.2.2.2.2.2.2.1 - N.2.2.1 i) f + lsl Y (σ i), 12 * mc_out K (N.2.2.2.2.2.2.1 - N.2.2.1 i) f + gsl Y (σ i), ⟨_, σ i, c1, hs, k.2.2.1.trans c2.symm, hso, hr, rfl, rfl⟩, ?_, fun z => absurd z hk1, fun _ => had⟩
    intro pc fl su te ss ts
    exact ⟨by omega, _, _, hrun _ _ _ _ _ _, _, _, hslot _ _ _ _ _ _, by omega, (show r_pSort X (σ i) < 2147483648 by rw [e.1]; have := h3 _ hs; omega), Or.inr ⟨fun z => hr (e.1.symm.trans z), rfl, rfl⟩⟩
theorem cor_lt {g a p : Nat} (h12 : cnt (vAll Y) Y.2.2.2.2.2.1 ≤ 12) (hg : g ≤ 10) (h : COR Y X g a p) : a < 132 ∧ p < 132 := by
  obtain ⟨g', s', z1, z2, z3, z4, z5, z6, z7⟩ := h
  have := gsl_lt h12 z2 z4
  have := lsl_le (Y := Y) (s := s')
  omega
theorem cor_val {g a p : Nat} (hg : g ≤ f) (hM : MEM Y K X f) (h : COR Y X g a p) : K.1 a = r_cell X p := by
  obtain ⟨g', s', z1, z2, z3, z4, z5, rfl, rfl⟩ := h
  exact (hM g' s' (by omega) z2 z3 z4).1 z5
theorem vv_ok {T : Tk} {m : Nat} {μ ν : Nat → Nat} {N : Nm} {σ bl : Nat → Nat} {a b : Nat} (t : TkOk T m) (hG : RG T m Y μ ν X) (h3 : ∀ s, s < Y.2.2.2.2.2.1 → Y.2.1 s ≤ 3) (h18 : Y.2.2.2.2.2.1 ≤ 18) (h12 : cnt (vAll Y) Y.2.2.2.2.2.1 ≤ 12) (oN : NmOk N) (hB : BL N bl Y) (hK : NK N σ bl Y) (hS : SIM Y K X f) (hf : r_blockOf X f = bl N.2.2.2.2.2.2.1) (hb : b ≤ 155) (hμ : ∀ q, a ≤ q → q < b → kd T q = 25 → ∃ i, nm_find N (T.2.2.1 q) = some i ∧ μ q = σ i) : VV T N K X a b := by
  intro q h1 h2 hk i hi hk2
  obtain ⟨i', hi', e⟩ := hμ q h1 h2 hk
  rw [hi] at hi'
  cases hi'
  obtain ⟨a', p, c1, c2, c3, c4⟩ := place_ok hG h3 h18 h12 oN hB hK hS hf (nm_find_lt hi).1 hk2
  obtain ⟨s1, s2, s3, s4, s5, s6⟩ := hS
  have cl := cor_lt h12 s3 c1
  have cv := cor_val (Nat.le_refl _) s6 c1
  refine ⟨p, cl.2, ?_, ?_⟩
  · rw [(hG.2.2.2 q (by omega)).1, e]
    exact c2
  · unfold vld
    by_cases h1 : N.2.1 i = 1
    · rw [if_pos h1, c3 h1, ld_nI cl.1, cv]
    · rw [if_neg h1, c4 h1, ld_nI cl.1, cv]
/-- the variable is written in both -/
theorem mem_set {a p : Nat} {v : Int32} {K' : Mc} {X' : MS} (h12 : cnt (vAll Y) Y.2.2.2.2.2.1 ≤ 12) (hM : MEM Y K X f) (h : COR Y X f a p) (e1 : K'.1 = upd K.1 a v) (e2 : r_cell X' = upd (r_cell X) p v) (e3 : r_stands X' = r_stands X) (e4 : r_blockOf X' = r_blockOf X) : MEM Y K' X' f := by
  obtain ⟨g', s', z1, z2, z3, z4, z5, rfl, rfl⟩ := h
  have gl' := gsl_lt h12 z2 z4
  have ll' := lsl_le (Y := Y) (s := s')
  intro g s hg hs hh h3
  rw [e4] at hh
  have gl := gsl_lt h12 hs h3
  have ll := lsl_le (Y := Y) (s := s)
  have q := hM g s hg hs hh h3
  -- the same place only if it is the same variable
  have inj : g = g' → s ≠ s' → lsl Y s ≠ lsl Y s' ∧ gsl Y s ≠ gsl Y s' := by
    intro eg es
    subst eg
    have hhs : Y.2.2.1 s = Y.2.2.1 s' := hh.trans z3.symm
    rcases Nat.lt_or_ge s s' with z | z
    · have a1 := cnt_lt (p := vAll Y) z (decide_eq_true h3)
      have a2 := cnt_lt (p := vIn Y (Y.2.2.1 s')) z (by unfold vIn; simp [hhs, h3])
      unfold lsl gsl
      rw [hhs]
      omega
    · have a1 := cnt_lt (p := vAll Y) (show s' < s by omega) (decide_eq_true z4)
      have a2 := cnt_lt (p := vIn Y (Y.2.2.1 s)) (show s' < s by omega) (by unfold vIn; simp [hhs.symm, z4])
      unfold lsl gsl
      rw [← hhs]
      omega
  by_cases hsame : g = g' ∧ s = s'
  · obtain ⟨rfl, rfl⟩ := hsame
    refine ⟨fun _ => ?_, fun z => absurd z z5⟩
    rw [e1, e2, upd_same, upd_same]
  · have d1 : 12 * g + lsl Y s ≠ 12 * g' + lsl Y s' := by
      intro z
      have : g = g' := by omega
      exact (inj this (fun w => hsame ⟨this, w⟩)).1 (by omega)
    have d2 : 12 * g + gsl Y s ≠ 12 * g' + gsl Y s' := by
      intro z
      have : g = g' := by omega
      exact (inj this (fun w => hsame ⟨this, w⟩)).2 (by omega)
    have u1 : upd K.1 (12 * g' + lsl Y s') v (12 * g + lsl Y s) = K.1 (12 * g + lsl Y s) := by unfold upd; rw [if_neg d1]
    have u2 : upd (r_cell X) (12 * g' + gsl Y s') v (12 * g + gsl Y s) = r_cell X (12 * g + gsl Y s) := by unfold upd; rw [if_neg d2]
    refine ⟨fun z => ?_, fun z => ?_⟩
    · rw [e1, e2, u1, u2]; exact q.1 z
    · obtain ⟨a, p, w1, w2, w3⟩ := q.2 z
      refine ⟨a, p, ?_, by rw [e1, u1]; exact w2, by rw [e3]; exact w3⟩
      unfold COR
      rw [e4]
      exact w1
end SMs
