/-! ===== running statements: class and model ===== -/
def fcode (E : String) (c : Nat) : Prop := (E = ARE ∧ c = 2) ∨ (E = ISE ∧ c = 3) ∨ (E = IOE ∧ c = 4)
def GR (X X' : MS) : Prop := X'.1 = X.1 ∧ X'.2.1 = X.2.1 ∧ X'.2.2.1 = X.2.2.1 ∧ X'.2.2.2.1 = X.2.2.2.1 ∧ X'.2.2.2.2.1 = X.2.2.2.2.1
theorem GR.rf {X : MS} : GR X X := ⟨rfl, rfl, rfl, rfl, rfl⟩
theorem GR.tr {X Y Z : MS} (h : GR X Y) (k : GR Y Z) : GR X Z := ⟨k.1.trans h.1, k.2.1.trans h.2.1, k.2.2.1.trans h.2.2.1, k.2.2.2.1.trans h.2.2.2.1, k.2.2.2.2.trans h.2.2.2.2⟩
theorem OBS.cong {K K' : Mc} {X X' : MS} (h : OBS K X) (k : K'.2.2.2.2.2.2.2 = K.2.2.2.2.2.2.2) (e1 : r_written X' = r_written X) (e2 : r_output X' = r_output X) (e3 : r_lost X' = r_lost X) (e4 : r_steps X' = r_steps X) (e5 : r_greatest X' = r_greatest X) : OBS K' X' := by
  unfold OBS
  rw [k, e1, e2, e3, e4, e5]
  exact h
theorem CH.cong {Y : MS2} {K K' : Mc} {X X' : MS} {f : Nat} (h : CH Y K X f) (k : K'.2.1 = K.2.1) (e1 : r_blockOf X' = r_blockOf X) (e2 : r_outer X' = r_outer X) : CH Y K' X' f := by
  unfold CH
  rw [k, e1, e2]
  exact h
theorem MEM.cong {Y : MS2} {K K' : Mc} {X X' : MS} {f : Nat} (h : MEM Y K X f) (k : K'.1 = K.1) (e1 : r_blockOf X' = r_blockOf X) (e2 : r_cell X' = r_cell X) (e3 : r_stands X' = r_stands X) : MEM Y K' X' f := by
  unfold MEM COR
  rw [k, e1, e2, e3]
  exact h
theorem SIM.cong {Y : MS2} {K K' : Mc} {X X' : MS} {f : Nat} (h : SIM Y K X f) (k1 : K'.1 = K.1) (k2 : K'.2.1 = K.2.1) (k3 : K'.2.2.2.2.2.1 = K.2.2.2.2.2.1) (k4 : K'.2.2.2.2.2.2.2 = K.2.2.2.2.2.2.2) (e0 : r_frame X' = r_frame X) (e1 : r_written X' = r_written X) (e2 : r_output X' = r_output X) (e3 : r_lost X' = r_lost X) (e4 : r_steps X' = r_steps X) (e5 : r_greatest X' = r_greatest X) (e6 : r_blockOf X' = r_blockOf X) (e7 : r_outer X' = r_outer X) (e8 : r_cell X' = r_cell X) (e9 : r_stands X' = r_stands X) : SIM Y K' X' f :=
  ⟨e0.trans h.1, k3.trans h.2.1, h.2.2.1, h.2.2.2.1.cong k4 e1 e2 e3 e4 e5, h.2.2.2.2.1.cong k2 e6 e7, h.2.2.2.2.2.cong k1 e6 e8 e9⟩
def FRL (f lv : Nat) (X X' : MS) : Prop := GR X X' ∧ (∀ g, g ≤ f → r_blockOf X' g = r_blockOf X g ∧ r_outer X' g = r_outer X g ∧ r_back X' g = r_back X g) ∧ (∀ g, g < f → r_level X' g = r_level X g) ∧ ∀ j, j < 10 * f + lv → r_doing X' j = r_doing X j ∧ r_doneAt X' j = r_doneAt X j
theorem FRL.tr {f lv : Nat} {X Y Z : MS} (h : FRL f lv X Y) (k : FRL f lv Y Z) : FRL f lv X Z := by
  refine ⟨h.1.tr k.1, fun g hg => ?_, fun g hg => (k.2.2.1 g hg).trans (h.2.2.1 g hg), fun j hj => ?_⟩
  · have a := h.2.1 g hg
    have b := k.2.1 g hg
    exact ⟨b.1.trans a.1, b.2.1.trans a.2.1, b.2.2.trans a.2.2⟩
  · have a := h.2.2.2 j hj
    have b := k.2.2.2 j hj
    exact ⟨b.1.trans a.1, b.2.trans a.2⟩
theorem FRL.weak {f lv lv' : Nat} {X X' : MS} (h : FRL f lv X X') (hl : lv' ≤ lv) : FRL f lv' X X' := ⟨h.1, h.2.1, h.2.2.1, fun j hj => h.2.2.2 j (by omega)⟩
theorem FRL.rf {f lv : Nat} {X : MS} : FRL f lv X X := ⟨GR.rf, fun _ _ => ⟨rfl, rfl, rfl⟩, fun _ _ => rfl, fun _ _ => ⟨rfl, rfl⟩⟩
/-- the frames and what they are doing stay -/
def KP (X X' : MS) : Prop := GR X X' ∧ r_frame X' = r_frame X ∧ r_blockOf X' = r_blockOf X ∧ r_outer X' = r_outer X ∧ r_back X' = r_back X ∧ r_level X' = r_level X ∧ r_doing X' = r_doing X ∧ r_doneAt X' = r_doneAt X
theorem KP.tr {X Y Z : MS} (h : KP X Y) (k : KP Y Z) : KP X Z := ⟨h.1.tr k.1, k.2.1.trans h.2.1, k.2.2.1.trans h.2.2.1, k.2.2.2.1.trans h.2.2.2.1, k.2.2.2.2.1.trans h.2.2.2.2.1, k.2.2.2.2.2.1.trans h.2.2.2.2.2.1, k.2.2.2.2.2.2.1.trans h.2.2.2.2.2.2.1, k.2.2.2.2.2.2.2.trans h.2.2.2.2.2.2.2⟩
theorem KP.frl {X X' : MS} {f lv : Nat} (h : KP X X') : FRL f lv X X' := ⟨h.1, fun g _ => ⟨by rw [h.2.2.1], by rw [h.2.2.2.1], by rw [h.2.2.2.2.1]⟩, fun g _ => by rw [h.2.2.2.2.2.1], fun j _ => ⟨by rw [h.2.2.2.2.2.2.1], by rw [h.2.2.2.2.2.2.2]⟩⟩
theorem KP.vx {X : MS} {pc fl : Nat} {su te : Nat → Int32} {ss ts : Nat → Nat} : KP X (VX X pc fl su te ss ts) := ⟨⟨rfl, rfl, rfl, rfl, rfl⟩, rfl, rfl, rfl, rfl, rfl, rfl, rfl⟩
theorem KP.sx {X : MS} : KP X (sX X) := ⟨⟨rfl, rfl, rfl, rfl, rfl⟩, rfl, rfl, rfl, rfl, rfl, rfl, rfl⟩
theorem KP.cell {X : MS} {x : Nat → Int32} : KP X (w_cell X x) := ⟨⟨rfl, rfl, rfl, rfl, rfl⟩, rfl, rfl, rfl, rfl, rfl, rfl, rfl⟩
theorem KP.pc {X : MS} {x : Nat} : KP X (w_pc X x) := ⟨⟨rfl, rfl, rfl, rfl, rfl⟩, rfl, rfl, rfl, rfl, rfl, rfl, rfl⟩
theorem KP.fail {X : MS} {x : Nat} : KP X (w_failure X x) := ⟨⟨rfl, rfl, rfl, rfl, rfl⟩, rfl, rfl, rfl, rfl, rfl, rfl, rfl⟩
theorem KP.lost {X : MS} {x : Nat} : KP X (w_lost X x) := ⟨⟨rfl, rfl, rfl, rfl, rfl⟩, rfl, rfl, rfl, rfl, rfl, rfl, rfl⟩
theorem KP.outp {X : MS} {x : Nat} {o : Nat → Int32} : KP X (w_written (w_output X o) x) := ⟨⟨rfl, rfl, rfl, rfl, rfl⟩, rfl, rfl, rfl, rfl, rfl, rfl, rfl⟩
theorem OBS.vx {K : Mc} {X : MS} {pc fl : Nat} {su te : Nat → Int32} {ss ts : Nat → Nat} (h : OBS K X) : OBS K (VX X pc fl su te ss ts) := h.cong rfl rfl rfl rfl rfl rfl
theorem OBS.kx {K : Mc} {X : MS} {st : Nat → Int32} {τ c : Nat} (h : OBS K X) : OBS (KX K st τ c) X := h.cong rfl rfl rfl rfl rfl rfl
theorem OBS.fail {K : Mc} {X : MS} {x : Nat} (h : OBS K X) : OBS K (w_failure X x) := h.cong rfl rfl rfl rfl rfl rfl
theorem OBS.pc {K : Mc} {X : MS} {x : Nat} (h : OBS K X) : OBS K (w_pc X x) := h.cong rfl rfl rfl rfl rfl rfl
theorem SIM.vx {Y : MS2} {K : Mc} {X : MS} {f pc fl : Nat} {su te : Nat → Int32} {ss ts : Nat → Nat} (h : SIM Y K X f) : SIM Y K (VX X pc fl su te ss ts) f := h.cong rfl rfl rfl rfl rfl rfl rfl rfl rfl rfl rfl rfl rfl rfl
theorem SIM.kx {Y : MS2} {K : Mc} {X : MS} {f : Nat} {st : Nat → Int32} {τ c : Nat} (h : SIM Y K X f) : SIM Y (KX K st τ c) X f := h.cong rfl rfl rfl rfl rfl rfl rfl rfl rfl rfl rfl rfl rfl rfl
theorem SIM.pc {Y : MS2} {K : Mc} {X : MS} {f x : Nat} (h : SIM Y K X f) : SIM Y K (w_pc X x) f := h.cong rfl rfl rfl rfl rfl rfl rfl rfl rfl rfl rfl rfl rfl rfl
theorem SIM.set {Y : MS2} {K : Mc} {X : MS} {f a p : Nat} {x : Int32} (h12 : cnt (vAll Y) Y.2.2.2.2.2.1 ≤ 12) (h : SIM Y K X f) (hc : COR Y X f a p) : SIM Y (upd K.1 a x, K.2) (w_cell X (upd (r_cell X) p x)) f :=
  ⟨h.1, h.2.1, h.2.2.1, h.2.2.2.1.cong rfl rfl rfl rfl rfl rfl, h.2.2.2.2.1.cong rfl rfl rfl, mem_set h12 h.2.2.2.2.2 hc rfl rfl rfl rfl⟩
theorem COR.vx {Y : MS2} {X : MS} {g a p pc fl : Nat} {su te : Nat → Int32} {ss ts : Nat → Nat} (h : COR Y X g a p) : COR Y (VX X pc fl su te ss ts) g a p := h
def FRK (f : Nat) (K K' : Mc) : Prop := ∀ g, g ≤ f → K'.2.2.1 g = K.2.2.1 g
/-- the steps taken -/
def ks (K : Mc) : Nat := K.2.2.2.2.2.2.2.2.2.2.1
/-- what a stretch of running comes to -/
def RO (Y : MS2) (D : Co) (c0 c1 t1 lv lv' : Nat) (K : Mc) (X : MS) (f : Nat) (P : Nat → MS → Prop) : Prop :=
  (∃ k K' X', VR D k K K' ∧ k + c0 + 700 * ks K ≤ c1 + 700 * ks K' ∧ ks K ≤ ks K' ∧ K'.2.2.2.2.2.2.1 = c1 ∧ K'.2.2.2.2.1 = 0 ∧ r_pc X' = t1 ∧ r_failure X' = 0 ∧ SIM Y K' X' f ∧ r_level X' f = lv' ∧ FRL f lv X X' ∧ FRK f K K' ∧ ∀ v Z', oV X' v Z' → P v Z') ∨
  (∃ k E K' X' f', VE D k K E K' ∧ k + c0 + 700 * ks K ≤ c1 + 700 * ks K' ∧ ks K ≤ ks K' ∧ fcode E (r_failure X') ∧ OBS K' X' ∧ GR X X' ∧ r_frame X' = some f' ∧ f' < 2147483648 ∧ ∀ v Z', rN X' v Z' → P v Z')
theorem RO.pre {Y : MS2} {D : Co} {a0 c0 c1 t1 lv lv' f k0 : Nat} {K0 K : Mc} {X0 X : MS} {P P' : Nat → MS → Prop} (h : RO Y D c0 c1 t1 lv lv' K X f P') (v0 : VR D k0 K0 K) (hb : k0 + a0 + 700 * ks K0 ≤ c0 + 700 * ks K) (hs : ks K0 ≤ ks K) (hF : FRL f lv X0 X) (hK : FRK f K0 K) (hP : ∀ v Z', P' v Z' → P v Z') : RO Y D a0 c1 t1 lv lv' K0 X0 f P := by
  rcases h with ⟨k, K', X', h1, h2, h3, h4, h5, h6, h7, h8, h9, h10, h11, h12⟩ | ⟨k, E, K', X', f', h1, h2, h3, h4, h5, h6, h7, h8, h9⟩
  · exact Or.inl ⟨k0 + k, K', X', v0.tr h1, by omega, by omega, h4, h5, h6, h7, h8, h9, hF.tr h10, fun g hg => (h11 g hg).trans (hK g hg), fun v Z' hh => hP _ _ (h12 _ _ hh)⟩
  · exact Or.inr ⟨k0 + k, E, K', X', f', v0.te h1, by omega, by omega, h4, h5, hF.1.tr h6, h7, h8, fun v Z' hh => hP _ _ (h9 _ _ hh)⟩
theorem RO.seq {Y : MS2} {D : Co} {c0 c1 c2 t1 t2 lv lv' lv2 f : Nat} {K : Mc} {X : MS} {P : Nat → MS → Prop} (h : RO Y D c0 c1 t1 lv lv' K X f P) (k : ∀ K' X', K'.2.2.2.2.2.2.1 = c1 → K'.2.2.2.2.1 = 0 → r_pc X' = t1 → r_failure X' = 0 → SIM Y K' X' f → r_level X' f = lv' → FRL f lv X X' → FRK f K K' → ks K ≤ ks K' → RO Y D c1 c2 t2 lv lv2 K' X' f (oV X')) (hc : c1 ≤ c2) : RO Y D c0 c2 t2 lv lv2 K X f P := by
  rcases h with ⟨j, K', X', h1, h2, h3, h4, h5, h6, h7, h8, h9, h10, h11, h12⟩ | ⟨j, E, K', X', f', h1, h2, h3, h4, h5, h6, h7, h8, h9⟩
  · exact (k K' X' h4 h5 h6 h7 h8 h9 h10 h11 h3).pre h1 h2 h3 h10 h11 h12
  · exact Or.inr ⟨j, E, K', X', f', h1, by omega, h3, h4, h5, h6, h7, h8, h9⟩
theorem RO.weak {Y : MS2} {D : Co} {c0 c1 t1 lv lv' l f : Nat} {K : Mc} {X : MS} {P : Nat → MS → Prop} (h : RO Y D c0 c1 t1 lv lv' K X f P) (hl : l ≤ lv) : RO Y D c0 c1 t1 l lv' K X f P := by
  rcases h with ⟨j, K', X', h1, h2, h3, h4, h5, h6, h7, h8, h9, h10, h11, h12⟩ | h
  · exact Or.inl ⟨j, K', X', h1, h2, h3, h4, h5, h6, h7, h8, h9, h10.weak hl, h11, h12⟩
  · exact Or.inr h
theorem kx_eta {K : Mc} {τ c : Nat} (h1 : K.2.2.2.2.1 = τ) (h2 : K.2.2.2.2.2.2.1 = c) : K = KX K K.2.2.2.1 τ c := by
  rw [← h1, ← h2]; rfl
theorem ks_kx {K : Mc} {st : Nat → Int32} {τ c : Nat} : ks (KX K st τ c) = ks K := rfl
theorem ks_step {K : Mc} : ks (mc_step K) = ks K + 1 := rfl
theorem ks_cell {K : Mc} {x : Nat → Int32} : ks (x, K.2) = ks K := rfl
/-! more of the machine -/
section VM
variable {D : Co} {K : Mc} {st : Nat → Int32} {τ c : Nat}
theorem vm_step (hc : c < D.2.2.2.2.2.2.1) (hx : D.1 c = 0) (h : ks K < 400) : VR D 1 (KX K st τ c) (KX (mc_step K) st τ (c + 1)) := by
  refine vm1 hc ?_
  rw [hx]
  show (if ks K = 400 then _ else _) = _
  rw [if_neg (by omega)]
  rfl
theorem vm_stepE (hc : c < D.2.2.2.2.2.2.1) (hx : D.1 c = 0) (h : ks K = 400) : VE D 1 (KX K st τ c) ISE (KX K st τ (c + 1)) := by
  refine vmE hc ?_
  rw [hx]
  show (if ks K = 400 then _ else _) = _
  rw [if_pos h]
theorem vm_store {a : Nat} (hc : c < D.2.2.2.2.2.2.1) (hx : D.1 c = 5) (ha : mc_addr K (D.2.1 c) (D.2.2.1 c) = a) (h : a < 132) : VR D 1 (KX K st (τ + 1) c) (KX (upd K.1 a (st τ), K.2) st τ (c + 1)) := by
  refine vm1 hc ?_
  rw [hx]
  show (none, mc_st (mc_pop (KX K st (τ + 1) (c + 1))).2 (nI (mc_addr (KX K st (τ + 1) (c + 1)) (D.2.1 c) (D.2.2.1 c))) (mc_pop (KX K st (τ + 1) (c + 1))).1) = _
  rw [kx_pop, kx_addr, ha, st_nI h]
  rfl
theorem vm_storeT {a : Nat} (hc : c < D.2.2.2.2.2.2.1) (hx : D.1 c = 6) (ha : mc_ld K (nI (mc_addr K (D.2.1 c) (D.2.2.1 c))) = nI a) (h : a < 132) : VR D 1 (KX K st (τ + 1) c) (KX (upd K.1 a (st τ), K.2) st τ (c + 1)) := by
  refine vm1 hc ?_
  rw [hx]
  show (none, mc_st (mc_pop (KX K st (τ + 1) (c + 1))).2 (mc_ld K (nI (mc_addr (KX K st (τ + 1) (c + 1)) (D.2.1 c) (D.2.2.1 c)))) (mc_pop (KX K st (τ + 1) (c + 1))).1) = _
  rw [kx_pop, kx_addr, ha, st_nI h]
  rfl
theorem vm_put (hc : c < D.2.2.2.2.2.2.1) (hx : D.1 c = 20) : VR D 1 (KX K st (τ + 1) c) (KX (mc_put K (st τ)) st τ (c + 1)) := by
  refine vm1 hc ?_
  rw [hx]
  show (none, mc_put (mc_pop (KX K st (τ + 1) (c + 1))).2 (mc_pop (KX K st (τ + 1) (c + 1))).1) = _
  rw [kx_pop]
  unfold mc_put
  by_cases h : 32 ≤ K.2.2.2.2.2.2.2.2.1
  · rw [if_pos h, if_pos (show 32 ≤ (KX K st τ (c + 1)).2.2.2.2.2.2.2.2.1 from h)]; rfl
  · rw [if_neg h, if_neg (show ¬ 32 ≤ (KX K st τ (c + 1)).2.2.2.2.2.2.2.2.1 from h)]; rfl
theorem vm_jump (hc : c < D.2.2.2.2.2.2.1) (hx : D.1 c = 16) : VR D 1 (KX K st τ c) (KX K st τ (D.2.1 c)) := by
  refine vm1 hc ?_
  rw [hx]
  rfl
theorem vm_ju (hc : c < D.2.2.2.2.2.2.1) (hx : D.1 c = 17) : VR D 1 (KX K st (τ + 1) c) (KX K st τ (if st τ = 0 then D.2.1 c else c + 1)) := by
  refine vm1 hc ?_
  rw [hx]
  show (none, if (mc_pop (KX K st (τ + 1) (c + 1))).1 = 0 then _ else (mc_pop (KX K st (τ + 1) (c + 1))).2) = _
  rw [kx_pop]
  by_cases h : st τ = 0
  · rw [if_pos h, if_pos h]; rfl
  · rw [if_neg h, if_neg h]
end VM
/-! what a program and a place in it are -/
def PF2 (T : Tk) (m : Nat) (Y : MS2) : Prop := TkOk T m ∧ (∀ s, s < Y.2.2.2.2.2.1 → Y.2.1 s ≤ 3) ∧ Y.2.2.2.2.2.1 ≤ 18 ∧ cnt (vAll Y) Y.2.2.2.2.2.1 ≤ 12
def NB (Y : MS2) (N : Nm) (σ bl : Nat → Nat) (b : Nat) : Prop := NmOk N ∧ BL N bl Y ∧ NK N σ bl Y ∧ bl N.2.2.2.2.2.2.1 = b
def MU (T : Tk) (N : Nm) (σ μ : Nat → Nat) (a b : Nat) : Prop := ∀ q, a ≤ q → q < b → kd T q = 25 → ∃ i, nm_find N (T.2.2.1 q) = some i ∧ μ q = σ i
theorem MU.sub {T : Tk} {N : Nm} {σ μ : Nat → Nat} {a b a' b' : Nat} (h : MU T N σ μ a b) (ha : a ≤ a') (hb : b' ≤ b) : MU T N σ μ a' b' := fun q h1 h2 => h q (by omega) (by omega)
/-- both stand at the beginning of a statement -/
def AT (Y : MS2) (K : Mc) (X : MS) (f c p : Nat) : Prop := SIM Y K X f ∧ K.2.2.2.2.1 = 0 ∧ K.2.2.2.2.2.2.1 = c ∧ r_pc X = p ∧ r_failure X = 0
section RV
variable {T : Tk} {m : Nat} {Y : MS2} {D : Co} {μ ν : Nat → Nat} {N : Nm} {σ bl : Nat → Nat} {f : Nat} {K : Mc} {X : MS}
theorem rg_gr {X' : MS} (h : RG T m Y μ ν X) (g : GR X X') : RG T m Y μ ν X' := by
  have e := g.2.2.2.1
  have e2 : ∀ i, r_pKind X' i = r_pKind X i := fun i => by show X'.2.2.2.1.1 i = _; rw [e]; rfl
  have e3 : ∀ i, r_pWord X' i = r_pWord X i := fun i => by show X'.2.2.2.1.2.1 i = _; rw [e]; rfl
  have e4 : ∀ i, r_pSort X' i = r_pSort X i ∧ r_pHome X' i = r_pHome X i ∧ r_pOwn X' i = r_pOwn X i ∧ r_pWants X' i = r_pWants X i := fun i => by
    show X'.2.2.2.1.2.2.2.2.1 i = _ ∧ X'.2.2.2.1.2.2.2.2.2.1 i = _ ∧ X'.2.2.2.1.2.2.2.2.2.2.1 i = _ ∧ X'.2.2.2.1.2.2.2.2.2.2.2.1 i = _
    rw [e]
    exact ⟨rfl, rfl, rfl, rfl⟩
  have e5 : ∀ i, r_pBody X' i = r_pBody X i := fun i => by show X'.2.2.2.1.2.2.2.2.2.2.2.2 i = _; rw [e]; rfl
  have e6 : ∀ i, r_pMeans X' i = r_pMeans X i ∧ r_pNext X' i = r_pNext X i := fun i => by
    show X'.2.2.2.1.2.2.1 i = _ ∧ X'.2.2.2.1.2.2.2.1 i = _
    rw [e]
    exact ⟨rfl, rfl⟩
  refine ⟨⟨fun i hi => (e2 i).trans (h.1.1 i hi), fun i hi hk => (e3 i).trans (h.1.2 i hi hk)⟩, fun s hs => ?_, fun b hb => (e5 b).trans (h.2.2.1 b hb), fun t ht => ?_⟩
  · rw [(e4 s).1, (e4 s).2.1, (e4 s).2.2.1, (e4 s).2.2.2]; exact h.2.1 s hs
  · rw [(e6 t).1, (e6 t).2]; exact h.2.2.2 t ht
/-- the step is refused -/
theorem fl_step3 {S1c c p : Nat} (t : TkOk T m) (hR : RT T m X) (hA : AT Y K X f c p) (hp : p ≤ m) (hk : r_pKind X p = 1 ∨ r_pKind X p = 12 ∨ r_pKind X p = 7 ∨ r_pKind X p = 10) (hc : c < D.2.2.2.2.2.2.1) (hx : D.1 c = 0) (h4 : ks K = 400) (hc1 : c + 1 ≤ S1c) : ∃ k E K' X' f', VE D k K E K' ∧ k + c + 700 * ks K ≤ S1c + 700 * ks K' ∧ ks K ≤ ks K' ∧ fcode E (r_failure X') ∧ OBS K' X' ∧ GR X X' ∧ r_frame X' = some f' ∧ f' < 2147483648 ∧ ∀ v Z', rN X' v Z' → rN X v Z' := by
  obtain ⟨⟨s1, s2, s3, s4, s5, s6⟩, a1, a2, a3, a4⟩ := hA
  have tm := t.1
  have hst : r_steps X = 400 := s4.2.2.2.2.1.trans h4
  refine ⟨1, ISE, KX K K.2.2.2.1 0 (c + 1), w_failure X 3, f, ?_, ?_, ?_, Or.inr (Or.inl ⟨rfl, rfl⟩), s4.fail.kx, KP.fail.1, s1, by omega, fun v Z' h => ?_⟩
  · have := vm_stepE (st := K.2.2.2.1) (τ := 0) hc hx h4
    rw [← kx_eta a1 a2] at this
    exact this
  · rw [ks_kx]; omega
  · rw [ks_kx]; omega
  · refine rN_step s1 (by omega) a4 (st_step3 (by omega) ?_ hst) h
    rw [a3]; exact hk
theorem ro_step3 {S1c t1 lv lv' c p : Nat} (t : TkOk T m) (hR : RT T m X) (hA : AT Y K X f c p) (hp : p ≤ m) (hk : r_pKind X p = 1 ∨ r_pKind X p = 12 ∨ r_pKind X p = 7 ∨ r_pKind X p = 10) (hc : c < D.2.2.2.2.2.2.1) (hx : D.1 c = 0) (h4 : ks K = 400) (hc1 : c + 1 ≤ S1c) : RO Y D c S1c t1 lv lv' K X f (rN X) := Or.inr (fl_step3 t hR hA hp hk hc hx h4 hc1)
/-- the step is taken -/
theorem at_step {c p : Nat} (hA : AT Y K X f c p) (h : ks K < 400) : SIM Y (mc_step K) (sX X) f := by
  obtain ⟨⟨s1, s2, s3, ⟨o1, o2, o3, o4, o5, o6, o7, o8⟩, s5, s6⟩, a1, a2, a3, a4⟩ := hA
  refine ⟨s1, s2, s3, ⟨o1, o2, o3, o4, ?_, ?_, o7, o8⟩, s5, s6⟩
  · show r_steps X + 1 = _ + 1; rw [o5]
  · show _ + 1 ≤ 400; unfold ks at h; omega
theorem vvx {a b : Nat} (pf : PF2 T m Y) (hG : RG T m Y μ ν X) (hN : NB Y N σ bl (r_blockOf X f)) (hS : SIM Y K X f) (hb : b ≤ m) (hμ : MU T N σ μ a b) : VV T N K X a b := by
  have tm := pf.1.1
  exact vv_ok pf.1 hG pf.2.1 pf.2.2.1 pf.2.2.2 hN.1 hN.2.1 hN.2.2.1 hS hN.2.2.2.symm (by omega) hμ
theorem ro_assign {S S1 : CS} {v0 : Nat} (pf : PF2 T m Y) (hG : RG T m Y μ ν X) (hN : NB Y N σ bl (r_blockOf X f)) (o : Ok m S) (c : C2 S) (e : S.2.1 = N) (hk : kd T S.1 = 25) (h10 : kd T (S.1 + 1) = 10) (h : cp_assign T S = (.inr v0, S1)) (hD : AGd D (cz S) S1) (hμ : MU T N σ μ S.1 S1.1) (hA : AT Y K X f (cz S) S.1) : RO Y D (cz S) (cz S1) S1.1 (r_level X f) (r_level X f) K X f (rN X) := by
  have t := pf.1
  have tm := t.1
  have o1 := o.1
  have hl := t.lt o.1 hk (by decide)
  have gS := gs_assign t S S1 v0 o c hk h
  have oS1 := gS.2.1.1
  unfold cp_assign at h
  rw [e] at h
  split at h
  · cases h
  · rename_i i hi
    split at h
    · cases h
    · rename_i hk2
      have zA : cz S < 300 := by unfold C2 at c; omega
      have o2 := ok_add (x := 0) (f := 0) (t := 0) o (by decide)
      have ha := ge_adv (S := cadd S 0 0 0) t o2 hk (by decide)
      have a1 : (adv (cadd S 0 0 0)).1 = S.1 + 1 := ha.2
      have z1 : cz (adv (cadd S 0 0 0)) = cz S + 1 := cz_add zA
      have P1 : PF (cadd S 0 0 0) (adv (cadd S 0 0 0)) := PF.rf.adv
      obtain ⟨w2, S2, h1, h2⟩ := bd_inv h
      have e2 := ge_expect t (by decide) ha.1.2.1 h1
      obtain ⟨w3, S3, h3, h4⟩ := bd_inv h2
      have cc : Cp (adv (cadd S 0 0 0)) := by unfold Cp; unfold C2 at c; omega
      have c2 : Cp S2 := e2.1.cp cc
      have g3 := gx_expr t 8 S2 S3 w3 e2.1.2.1 c2 trivial h3
      have q2 := e2.1.2.2.2.1
      have q3 := g3.1.2.2.2.1
      have q5 := g3.2.1
      have q6 := g3.1.2.1.1
      have z2 : cz S2 = cz S + 1 := by rw [e2.2.2.1]; exact z1
      have p2 : S2.1 = S.1 + 2 := by rw [e2.2.1, a1]
      have z4 : cz S3 < 300 := by unfold C2 at c; omega
      have nm3 : S3.2.1 = N := by rw [g3.1.2.2.1, e2.1.2.2.1]; exact e
      rw [nm3] at h4
      cases h4
      have z5 := cz_add (x := if N.2.1 i = 1 then 6 else 5) (f := N.2.2.2.2.2.2.1 - N.2.2.1 i) (t := N.2.2.2.1 i) z4
      have pS3 : (cadd S3 (if N.2.1 i = 1 then 6 else 5) (N.2.2.2.2.2.2.1 - N.2.2.1 i) (N.2.2.2.1 i)).1 = S3.1 := rfl
      rw [pS3] at hμ oS1
      -- the instructions
      have D0 := hD.at (S := S) (x := 0) (f := 0) (t := 0) zA (((P1.tr e2.1.2.2.2.2).tr g3.1.2.2.2.2).add z4) (Nat.le_refl _)
      have D3 := hD.at (S := S3) z4 PF.rf (by have := g3.1.2.2.2.2.1; omega)
      have A3 : AGd D (cz S2) S3 := (hD.pf (PF.rf.add z4)).lo (by omega)
      have k1 : r_pKind X S.1 = 1 := by rw [hG.1.1 _ o.1, hk]; rfl
      have ob := hA.1.2.2.2.1
      have hs400 : ks K ≤ 400 := ob.2.2.2.2.2.1
      rcases Nat.lt_or_ge (ks K) 400 with hs | hs
      · have hS1 := at_step hA hs
        have hGs : RG T m Y μ ν (sX X) := hG
        have V1 : VV T N (mc_step K) (sX X) S2.1 S3.1 := vvx pf hGs hN hS1 oS1 (hμ.sub (by omega) (Nat.le_refl _))
        obtain ⟨⟨s1, s2, s3, s4, s5, s6⟩, b1, b2, b3, b4⟩ := hA
        have b4' : r_failure (sX X) = 0 := b4
        have tv := ev_top (K := mc_step K) (X := sX X) (st := K.2.2.2.1) (τ := 0) (su := r_sum X) (te := r_term X) (ss := r_sumSign X) (ts := r_termSign X) t hGs.1 e2.1.2.1 c2 (e2.1.2.2.1.trans e) h3 A3 V1 (by decide)
        have vst := vm_step (K := K) (st := K.2.2.2.1) (τ := 0) D0.1 D0.2.1 hs
        rw [← kx_eta b1 b2] at vst
        obtain ⟨i', hi', eμ⟩ := hμ S.1 (Nat.le_refl _) (by omega) hk
        rw [hi] at hi'
        cases hi'
        have hi1 := (nm_find_lt hi).1
        have nk := hN.2.2.1 i hi1
        have hs18 := pf.2.2.1
        have ms := nk.1
        have m18 : r_pMeans X (r_pc X) < 18 := by rw [b3, (hG.2.2.2 S.1 (by omega)).1, eμ]; omega
        have mE : r_pMeans X (r_pc X) = σ i := by rw [b3, (hG.2.2.2 S.1 (by omega)).1, eμ]
        have so := (hG.2.1 (σ i) (by omega)).1
        have sl := pf.2.1 (σ i) ms
        have n3 : ¬ r_pSort X (r_pMeans X (r_pc X)) = 3 := by rw [mE, so]; rcases nk.2.2.2.1 with q | q | q <;> omega
        have sb : r_pSort X (r_pMeans X (r_pc X)) < 2147483648 := by rw [mE, so]; omega
        have st400 : r_steps X < 400 := by rw [s4.2.2.2.2.1]; exact hs
        have kk : r_pKind X (r_pc X) = 1 := by rw [b3]; exact k1
        have pc15 : r_pc X < 155 := by omega
        unfold TV at tv
        rw [p2, z2] at tv
        rcases tv with ⟨x, k, st', v1, v2, v3, v4, su', te', ss', ts', v5⟩ | ⟨k, st', τ', c', v1, v2, v, pc', su', te', ss', ts', hpc, v5⟩
        · -- the value is stored
          have hev : mo_evaluate (w_pc (sX X) (r_pc X + 2)) x (VX (sX X) S3.1 0 su' te' ss' ts') := by
            rw [wpc_vx _ b4', b3]; exact v5
          obtain ⟨a, p, q1, q2', q3', q4⟩ := place_ok (X := sX X) (K := mc_step K) (i := i) hGs pf.2.1 pf.2.2.1 pf.2.2.2 hN.1 hN.2.1 hN.2.2.1 hS1 hN.2.2.2.symm hi1 hk2
          have cl := cor_lt pf.2.2.2 s3 q1
          have vs2 : VR D 1 (KX (mc_step K) st' (0 + 1) (cz S3)) (KX (upd K.1 a x, (mc_step K).2) st' 0 (cz S3 + 1)) := by
            by_cases hn1 : N.2.1 i = 1
            · have := vm_storeT (K := mc_step K) (st := st') (τ := 0) (c := cz S3) (a := a) D3.1 (by rw [D3.2.1, if_pos hn1]) (by rw [D3.2.2.1, D3.2.2.2]; exact q3' hn1) cl.1
              rw [v3] at this
              exact this
            · have := vm_store (K := mc_step K) (st := st') (τ := 0) (c := cz S3) (a := a) D3.1 (by rw [D3.2.1, if_neg hn1]) (by rw [D3.2.2.1, D3.2.2.2]; exact q4 hn1) cl.1
              rw [v3] at this
              exact this
          left
          have kp : KP X (w_cell (VX (sX X) S3.1 0 su' te' ss' ts') (upd (r_cell (VX (sX X) S3.1 0 su' te' ss' ts')) p x)) := (KP.sx.tr KP.vx).tr KP.cell
          refine ⟨1 + k + 1, KX (upd K.1 a x, (mc_step K).2) st' 0 (cz S3 + 1), w_cell (VX (sX X) S3.1 0 su' te' ss' ts') (upd (r_cell (VX (sX X) S3.1 0 su' te' ss' ts')) p x), (vst.tr v1).tr vs2, ?_, ?_, ?_, rfl, rfl, rfl, ?_, ?_, kp.frl, fun g hg => rfl, fun v Z' hh => ?_⟩
          · rw [z5, ks_kx, ks_cell (K := mc_step K), ks_step]; omega
          · rw [ks_kx, ks_cell (K := mc_step K), ks_step]; omega
          · rw [z5]; rfl
          · exact SIM.kx (SIM.set (K := mc_step K) pf.2.2.2 (SIM.vx hS1) (COR.vx q1))
          · rw [kp.2.2.2.2.2.1]
          · obtain ⟨n, X1, ho, hr⟩ := hh
            refine rN_step s1 (by omega) b4 (st_asg (X1 := VX (sX X) S3.1 0 su' te' ss' ts') (p := p) (x := x) pc15 kk st400 b4 m18 n3 sb hev rfl rfl ?_ cl.2 ⟨n, ho⟩) hr
            rw [mE]
            exact q2' _ _ _ _ _ _
        · right
          have hev : mo_evaluate (w_pc (sX X) (r_pc X + 2)) v (VX (sX X) pc' 2 su' te' ss' ts') := by
            rw [wpc_vx _ b4', b3]; exact v5
          refine ⟨1 + k, ARE, _, VX (sX X) pc' 2 su' te' ss' ts', f, vst.te v1, ?_, ?_, Or.inl ⟨rfl, rfl⟩, hS1.2.2.2.1.vx.kx, (KP.sx.tr KP.vx).1, (KP.sx.tr KP.vx).2.1.trans s1, by omega, fun v' Z' hh => ?_⟩
          · rw [z5, ks_kx, ks_step]; omega
          · rw [ks_kx, ks_step]; omega
          · exact rN_step s1 (by omega) b4 (st_asgf pc15 kk st400 b4 m18 n3 sb hev (show ¬ 2 = 0 by decide) (show 2 < 2147483648 by decide)) hh
      · exact ro_step3 t hG.1 hA o.1 (Or.inl k1) D0.1 D0.2.1 (by omega) (by rw [z5]; have := g3.1.2.2.2.2.1; omega)
end RV
