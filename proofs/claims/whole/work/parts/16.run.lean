/-! equations by which the abstract machine runs -/
theorem Ev_of {k pc : Nat} {i : Instr} {len : Nat} (h : ins k pc = some (i, len)) (b : B3) (lc st : List AV) (σ : Sto) (Q : Po) : Ev b k pc lc st σ Q = vop Ev b k pc lc st σ Q len i := by
  rw [Ev_eq]
  unfold vstep
  rw [h]
def CI (d k : Nat) (vs : List AV) (σ : Sto) (K : Int32 → Sto → Prop) : Prop := ∃ S : Po, Ev (d, mO k) k 0 (lent vs (mX k)) [] σ S ∧ ∀ x σ', S (some (aI x)) σ' → K x σ'
def CL (d k : Nat) (vs : List AV) (σ : Sto) (K : Int64 → Sto → Prop) : Prop := ∃ S : Po, Ev (d, mO k) k 0 (lent vs (mX k)) [] σ S ∧ ∀ x σ', S (some (aL x)) σ' → K x σ'
def CR (d k : Nat) (vs : List AV) (σ : Sto) (K : Option Nat → Sto → Prop) : Prop := ∃ S : Po, Ev (d, mO k) k 0 (lent vs (mX k)) [] σ S ∧ ∀ x σ', S (some (aR x)) σ' → K x σ'
def CV (d k : Nat) (vs : List AV) (σ : Sto) (K : Sto → Prop) : Prop := ∃ S : Po, Ev (d, mO k) k 0 (lent vs (mX k)) [] σ S ∧ ∀ σ', S none σ' → K σ'
/-- the ends that a method's body is walked to -/
def eI (K : Int32 → Sto → Prop) : Po := fun r σ => ∃ x, r = some (aI x) ∧ K x σ
def eL (K : Int64 → Sto → Prop) : Po := fun r σ => ∃ x, r = some (aL x) ∧ K x σ
def eR (K : Option Nat → Sto → Prop) : Po := fun r σ => ∃ x, r = some (aR x) ∧ K x σ
def eV (K : Sto → Prop) : Po := fun r σ => r = none ∧ K σ
theorem aI_inj {x y : Int32} (h : some (aI x) = some (aI y)) : x = y := by cases h; rfl
theorem aL_inj {x y : Int64} (h : some (aL x) = some (aL y)) : x = y := by cases h; rfl
theorem aR_inj {x y : Option Nat} (h : some (aR x) = some (aR y)) : x = y := by cases h; rfl
theorem eI_eq (K : Int32 → Sto → Prop) (x : Int32) (σ : Sto) : eI K (some (aI x)) σ = K x σ := propext ⟨fun ⟨y, h, g⟩ => by rw [aI_inj h]; exact g, fun g => ⟨x, rfl, g⟩⟩
theorem eL_eq (K : Int64 → Sto → Prop) (x : Int64) (σ : Sto) : eL K (some (aL x)) σ = K x σ := propext ⟨fun ⟨y, h, g⟩ => by rw [aL_inj h]; exact g, fun g => ⟨x, rfl, g⟩⟩
theorem eR_eq (K : Option Nat → Sto → Prop) (x : Option Nat) (σ : Sto) : eR K (some (aR x)) σ = K x σ := propext ⟨fun ⟨y, h, g⟩ => by rw [aR_inj h]; exact g, fun g => ⟨x, rfl, g⟩⟩
theorem eV_eq (K : Sto → Prop) (σ : Sto) : eV K none σ = K σ := propext ⟨fun h => h.2, fun g => ⟨rfl, g⟩⟩
theorem CI_of {d k : Nat} {vs : List AV} {σ : Sto} {K : Int32 → Sto → Prop} (h : Ev (d, mO k) k 0 (lent vs (mX k)) [] σ (eI K)) : CI d k vs σ K := ⟨_, h, fun x σ' g => by rw [eI_eq] at g; exact g⟩
theorem CL_of {d k : Nat} {vs : List AV} {σ : Sto} {K : Int64 → Sto → Prop} (h : Ev (d, mO k) k 0 (lent vs (mX k)) [] σ (eL K)) : CL d k vs σ K := ⟨_, h, fun x σ' g => by rw [eL_eq] at g; exact g⟩
theorem CR_of {d k : Nat} {vs : List AV} {σ : Sto} {K : Option Nat → Sto → Prop} (h : Ev (d, mO k) k 0 (lent vs (mX k)) [] σ (eR K)) : CR d k vs σ K := ⟨_, h, fun x σ' g => by rw [eR_eq] at g; exact g⟩
theorem CV_of {d k : Nat} {vs : List AV} {σ : Sto} {K : Sto → Prop} (h : Ev (d, mO k) k 0 (lent vs (mX k)) [] σ (eV K)) : CV d k vs σ K := ⟨_, h, fun σ' g => by rw [eV_eq] at g; exact g⟩
theorem CI_mono {d k : Nat} {vs : List AV} {σ : Sto} {K K' : Int32 → Sto → Prop} (h : CI d k vs σ K) (f : ∀ x σ', K x σ' → K' x σ') : CI d k vs σ K' := by
  obtain ⟨S, h1, h2⟩ := h
  exact ⟨S, h1, fun x σ' g => f _ _ (h2 x σ' g)⟩
theorem CL_mono {d k : Nat} {vs : List AV} {σ : Sto} {K K' : Int64 → Sto → Prop} (h : CL d k vs σ K) (f : ∀ x σ', K x σ' → K' x σ') : CL d k vs σ K' := by
  obtain ⟨S, h1, h2⟩ := h
  exact ⟨S, h1, fun x σ' g => f _ _ (h2 x σ' g)⟩
theorem CR_mono {d k : Nat} {vs : List AV} {σ : Sto} {K K' : Option Nat → Sto → Prop} (h : CR d k vs σ K) (f : ∀ x σ', K x σ' → K' x σ') : CR d k vs σ K' := by
  obtain ⟨S, h1, h2⟩ := h
  exact ⟨S, h1, fun x σ' g => f _ _ (h2 x σ' g)⟩
theorem CV_mono {d k : Nat} {vs : List AV} {σ : Sto} {K K' : Sto → Prop} (h : CV d k vs σ K) (f : ∀ σ', K σ' → K' σ') : CV d k vs σ K' := by
  obtain ⟨S, h1, h2⟩ := h
  exact ⟨S, h1, fun σ' g => f _ (h2 σ' g)⟩
section
variable {d c s c1 c2 k pc k' : Nat} {lc vs rest : List AV} {σ : Sto} {Q : Po}
theorem vdo_I (hm : mK k' = 1 ∨ mK k' = 4) (ho : mO k' = (c1, c2)) (hw : ((wsum rest).ble 8 && (lent0 vs).length.ble (mX k')) = true) : vdo Ev (d + 1, c + c1, s + c2) k pc lc σ Q k' vs rest = CI d k' vs σ (fun x σ' => Ev (d + 1, c, s) k (pc + 3) lc (aI x :: rest) σ' Q) := by
  unfold vdo vback CI
  simp only [hw, gd, ho, Nat.le_add_left, true_and, Nat.add_sub_cancel]
  rcases hm with h | h <;> simp only [h]
theorem vdo_L (hm : mK k' = 2) (ho : mO k' = (c1, c2)) (hw : ((wsum rest).ble 8 && (lent0 vs).length.ble (mX k')) = true) : vdo Ev (d + 1, c + c1, s + c2) k pc lc σ Q k' vs rest = CL d k' vs σ (fun x σ' => Ev (d + 1, c, s) k (pc + 3) lc (aL x :: rest) σ' Q) := by
  unfold vdo vback CL
  simp only [hw, gd, ho, Nat.le_add_left, true_and, Nat.add_sub_cancel, hm]
theorem vdo_R (hm : mK k' = 3) (ho : mO k' = (c1, c2)) (hw : ((wsum rest).ble 8 && (lent0 vs).length.ble (mX k')) = true) : vdo Ev (d + 1, c + c1, s + c2) k pc lc σ Q k' vs rest = CR d k' vs σ (fun x σ' => Ev (d + 1, c, s) k (pc + 3) lc (aR x :: rest) σ' Q) := by
  unfold vdo vback CR
  simp only [hw, gd, ho, Nat.le_add_left, true_and, Nat.add_sub_cancel, hm]
theorem vdo_V (hm : mK k' = 0) (ho : mO k' = (c1, c2)) (hw : ((wsum rest).ble 8 && (lent0 vs).length.ble (mX k')) = true) : vdo Ev (d + 1, c + c1, s + c2) k pc lc σ Q k' vs rest = CV d k' vs σ (fun σ' => Ev (d + 1, c, s) k (pc + 3) lc rest σ' Q) := by
  unfold vdo vback CV
  simp only [hw, gd, ho, Nat.le_add_left, true_and, Nat.add_sub_cancel, hm]
end
section
variable {b : B3} {k pc x ci j f a : Nat} {lc st : List AV} {σ : Sto} {Q : Po}
theorem g_get0 (h : ins k pc = some (.getfield x, 3)) (hk : lok k x = true) (hq : alook fldT (mC k * 1000 + x) = some (ci, j, 0, f)) : Ev b k pc lc (aR (some a) :: st) σ Q = (okO σ a ci ∧ Ev b k (pc + 3) lc (aI (gi σ a j) :: st) σ Q) := by
  rw [Ev_of h]; show gd (_ && _) _ = _; rw [hk]; show vget _ _ _ _ _ _ _ _ (alook fldT (mC k * 1000 + x)) = _; rw [hq]; rfl
theorem g_get1 (h : ins k pc = some (.getfield x, 3)) (hk : lok k x = true) (hq : alook fldT (mC k * 1000 + x) = some (ci, j, 1, f)) : Ev b k pc lc (aR (some a) :: st) σ Q = (okO σ a ci ∧ Ev b k (pc + 3) lc (aI (gi σ a j) :: st) σ Q) := by
  rw [Ev_of h]; show gd (_ && _) _ = _; rw [hk]; show vget _ _ _ _ _ _ _ _ (alook fldT (mC k * 1000 + x)) = _; rw [hq]; rfl
theorem g_get2 (h : ins k pc = some (.getfield x, 3)) (hk : lok k x = true) (hq : alook fldT (mC k * 1000 + x) = some (ci, j, 2, f)) : Ev b k pc lc (aR (some a) :: st) σ Q = (okO σ a ci ∧ Ev b k (pc + 3) lc (aL (gl σ a j) :: st) σ Q) := by
  rw [Ev_of h]; show gd (_ && _) _ = _; rw [hk]; show vget _ _ _ _ _ _ _ _ (alook fldT (mC k * 1000 + x)) = _; rw [hq]; rfl
theorem g_get3 (h : ins k pc = some (.getfield x, 3)) (hk : lok k x = true) (hq : alook fldT (mC k * 1000 + x) = some (ci, j, 3, f)) : Ev b k pc lc (aR (some a) :: st) σ Q = (okO σ a ci ∧ Ev b k (pc + 3) lc (aR (gr σ a j) :: st) σ Q) := by
  rw [Ev_of h]; show gd (_ && _) _ = _; rw [hk]; show vget _ _ _ _ _ _ _ _ (alook fldT (mC k * 1000 + x)) = _; rw [hq]; rfl
theorem g_put0 {v : Int32} (h : ins k pc = some (.putfield x, 3)) (hk : lok k x = true) (hq : alook fldT (mC k * 1000 + x) = some (ci, j, 0, f)) (hf : (f.beq 0 || (isIn k && (mC k).beq ci)) = true) : Ev b k pc lc (aI v :: aR (some a) :: st) σ Q = (okO σ a ci ∧ Ev b k (pc + 3) lc st (si σ a j v) Q) := by
  rw [Ev_of h]; show gd (_ && _) _ = _; rw [hk]; show vput _ _ _ _ _ _ _ _ (alook fldT (mC k * 1000 + x)) = _; rw [hq]; show gd _ _ = _; rw [hf]; rfl
theorem g_put1 {v : Int32} (h : ins k pc = some (.putfield x, 3)) (hk : lok k x = true) (hq : alook fldT (mC k * 1000 + x) = some (ci, j, 1, f)) (hf : (f.beq 0 || (isIn k && (mC k).beq ci)) = true) : Ev b k pc lc (aI v :: aR (some a) :: st) σ Q = (okO σ a ci ∧ (v = 0 ∨ v = 1) ∧ Ev b k (pc + 3) lc st (si σ a j v) Q) := by
  rw [Ev_of h]; show gd (_ && _) _ = _; rw [hk]; show vput _ _ _ _ _ _ _ _ (alook fldT (mC k * 1000 + x)) = _; rw [hq]; show gd _ _ = _; rw [hf]; rfl
theorem g_put2 {v : Int64} (h : ins k pc = some (.putfield x, 3)) (hk : lok k x = true) (hq : alook fldT (mC k * 1000 + x) = some (ci, j, 2, f)) (hf : (f.beq 0 || (isIn k && (mC k).beq ci)) = true) : Ev b k pc lc (aL v :: aR (some a) :: st) σ Q = (okO σ a ci ∧ Ev b k (pc + 3) lc st (sl σ a j v) Q) := by
  rw [Ev_of h]; show gd (_ && _) _ = _; rw [hk]; show vput _ _ _ _ _ _ _ _ (alook fldT (mC k * 1000 + x)) = _; rw [hq]; show gd _ _ = _; rw [hf]; rfl
theorem g_put3 {v : Option Nat} (h : ins k pc = some (.putfield x, 3)) (hk : lok k x = true) (hq : alook fldT (mC k * 1000 + x) = some (ci, j, 3, f)) (hf : (f.beq 0 || (isIn k && (mC k).beq ci)) = true) : Ev b k pc lc (aR v :: aR (some a) :: st) σ Q = (okO σ a ci ∧ Ev b k (pc + 3) lc st (sr σ a j v) Q) := by
  rw [Ev_of h]; show gd (_ && _) _ = _; rw [hk]; show vput _ _ _ _ _ _ _ _ (alook fldT (mC k * 1000 + x)) = _; rw [hq]; show gd _ _ = _; rw [hf]; rfl
theorem g_inv {i : Instr} {kd0 : Nat} {q : Nat × Nat × Nat × Nat} (h : ins k pc = some (i, 3)) (hi : (i = .invokevirtual x ∧ kd0 = 0) ∨ (i = .invokespecial x ∧ kd0 = 1) ∨ (i = .invokestatic x ∧ kd0 = 2)) (hk : lok k x = true) (hq : alook mlkT (mC k * 1000 + x) = some q) : Ev b k pc lc st σ Q = vinv Ev b k pc lc st σ Q kd0 (some q) := by
  rw [Ev_of h]
  rcases hi with ⟨rfl, rfl⟩ | ⟨rfl, rfl⟩ | ⟨rfl, rfl⟩
  · show gd (_ && _) _ = _; rw [hk]; show vinv _ _ _ _ _ _ _ _ _ (alook mlkT (mC k * 1000 + x)) = _; rw [hq]
  · show gd (_ && _) _ = _; rw [hk]; show vinv _ _ _ _ _ _ _ _ _ (alook mlkT (mC k * 1000 + x)) = _; rw [hq]
  · show gd (_ && _) _ = _; rw [hk]; show vinv _ _ _ _ _ _ _ _ _ (alook mlkT (mC k * 1000 + x)) = _; rw [hq]
end
theorem g_new {d c s k pc x ci : Nat} {lc st : List AV} {σ : Sto} {Q : Po} (h : ins k pc = some (.new x, 3)) (hk : lok k x = true) (hq : alook clkT (mC k * 1000 + x) = some ci) : Ev (d, c, s) k pc lc st σ Q = (1 ≤ c ∧ (kd (sn σ)).2 ≤ s ∧ (kd (sn σ)).1 = ci ∧ Ev (d, c - 1, s - (kd (sn σ)).2) k (pc + 3) lc (aR (some (sn σ)) :: st) (alo σ) Q) := by
  rw [Ev_of h]; show gd (_ && _) _ = _; rw [hk, hq]
  show (sn σ = sn σ ∧ _) = _
  simp only [true_and]
