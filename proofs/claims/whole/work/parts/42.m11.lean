/-! the reference: the ring -/
def dig (m c k : Nat) : Nat := c / 6 ^ (m - 1 - k) % 6
/-- the rest of a row of services: all unlike, bounds there, the sum below 0 -/
def rgL (o : Nat → Option Int64) (m : Nat) (g : Nat → Nat) : Nat → Nat → Int64 → Bool
  | 0, _, s => decide (s < 0)
  | n + 1, k, s => if (fnd (fun i => decide (g i = g k)) 0 k).isSome then false else match o (6 * g k + g ((k + 1) % m)) with
    | none => false
    | some v => rgL o m g n (k + 1) (s + v)
/-- nothing but the ring is written -/
def scG (σ σ' : Sto) : Prop := sn σ' = sn σ ∧ gr σ' = gr σ ∧ (∀ a, a ≠ 85 → gi σ' a = gi σ a) ∧ gl σ' = gl σ
theorem scG.rfl (σ : Sto) : scG σ σ := ⟨Eq.refl _, Eq.refl _, fun _ _ => Eq.refl _, Eq.refl _⟩
theorem scG.trans {σ σ' σ'' : Sto} (h1 : scG σ σ') (h2 : scG σ' σ'') : scG σ σ'' := ⟨h2.1.trans h1.1, h2.2.1.trans h1.2.1, fun a e1 => (h2.2.2.1 a e1).trans (h1.2.2.1 a e1), h2.2.2.2.trans h1.2.2.2⟩
theorem scG.mb {σ σ' : Sto} {S : Nat} (h : scG σ σ') (hM : MB σ S) : MB σ' S := by
  obtain ⟨h1, h2, h3, h4⟩ := h
  unfold MB at hM ⊢
  rw [h1, h2, h3 68 (by decide)]
  exact hM
theorem scG.rp {σ σ' : Sto} {a f : Nat} {o : Nat → Option Int64} (h : scG σ σ') (hf : f ≠ 85) (hR : RpB σ a f o) : RpB σ' a f o := by
  intro k hk
  have := hR k hk
  unfold oB at this ⊢
  rw [h.2.2.1 f hf, h.2.2.2]
  exact this
theorem div6n {k : Nat} (h : k < 2 ^ 31) : nI k / 6 = nI (k / 6) := pk_div (d := 6) h (by omega) (by omega)
theorem rem6n {k : Nat} (h : k < 2 ^ 31) : nI k - nI (k / 6) * 6 = nI (k % 6) := by rw [← div6n h]; exact pk_rem (d := 6) h (by omega) (by omega)
theorem M_isRing1 {b : B3} {σ : Sto} {Q : Po} {S : Nat} (hM : MB σ S) {m c : Nat} (hm : m ≤ 6) (hc : c < 2 ^ 31) {u5 u6 u7 : AV} : ∀ (n : Nat) (σ1 : Sto), n ≤ m → scG σ σ1 → (∀ j, n ≤ j → j < m → gi σ1 85 j = nI (dig m c j)) → (∀ σ2 r, scG σ σ2 → (∀ j, j < m → gi σ2 85 j = nI (dig m c j)) → Ev b 133 34 [aR (some 68), aI (nI m), aI (nI c), aI r, aI (-1), u5, u6, u7] [] σ2 Q) → Ev b 133 7 [aR (some 68), aI (nI m), aI (nI c), aI (nI (c / 6 ^ (m - n))), aI (nI n + (-1)), u5, u6, u7] [] σ1 Q := by
  intro n
  induction n with
  | zero =>
    intro σ1 hn hs hz h
    have c1 : nI 0 + (-1) < 0 := by decide
    have e1 : nI 0 + (-1) = -1 := by decide
    rw [v_133_7]
    simp only [z10, z00, not_true_eq_false, not_false_eq_true, false_implies, true_implies, implies_true, nI_1, Int32.add_zero, true_or, or_true, true_and, and_true, eI_eq, eL_eq, eR_eq, eV_eq, lg_cmp_ge, lg_cmp_le, lg_cmp_gt, lg_cmp_lt, lg_cmp_eq, v_133_9, v_133_12, v_133_13, v_133_16, v_133_18, v_133_19, v_133_21, v_133_22, v_133_23, v_133_24, v_133_26, v_133_27, v_133_28, v_133_31, c1]
    rw [e1]
    exact h σ1 _ hs (fun j hj => hz j (by omega) hj)
  | succ n ih =>
    intro σ1 hn hs hz h
    rw [pk_m1]
    have c1 : ¬ nI n < 0 := nI_pos (by omega)
    have hcn : (nI n).toNatClampNeg = n := nI_clamp (by omega)
    have hM1 := hs.mb hM
    have z6 : ((6 : Int32) = 0) = False := eq_false (by decide)
    have hr : c / 6 ^ (m - (n + 1)) < 2 ^ 31 := Nat.lt_of_le_of_lt (Nat.div_le_self _ _) hc
    have er : c / 6 ^ (m - (n + 1)) / 6 = c / 6 ^ (m - n) := by
      rw [Nat.div_div_eq_div_mul, ← Nat.pow_succ, show (m - (n + 1)).succ = m - n by omega]
    have ed : c / 6 ^ (m - (n + 1)) % 6 = dig m c n := by unfold dig; rw [show m - 1 - n = m - (n + 1) by omega]
    have hrem : nI (c / 6 ^ (m - (n + 1))) - nI (c / 6 ^ (m - n)) * 6 = nI (dig m c n) := by rw [← er, rem6n hr, ed]
    rw [v_133_7]
    simp only [z10, z00, not_true_eq_false, not_false_eq_true, false_implies, true_implies, implies_true, nI_1, Int32.add_zero, true_or, or_true, true_and, and_true, eI_eq, eL_eq, eR_eq, eV_eq, lg_cmp_ge, lg_cmp_le, lg_cmp_gt, lg_cmp_lt, lg_cmp_eq, v_133_9, v_133_12, v_133_13, v_133_16, v_133_18, v_133_19, v_133_21, v_133_22, v_133_23, v_133_24, v_133_26, v_133_27, v_133_28, v_133_31, c1, z6, div6n hr, hrem, hM1.o, hM1.r23, hM1.a85 (k := n) (by omega), hcn, ed, er]
    refine ih _ (by omega) (hs.trans ⟨rfl, rfl, fun a ha => (same_si ha).1, rfl⟩) (fun j h1 h2 => ?_) h
    rw [gi_si]
    unfold up1
    by_cases e : j = n
    · simp [e]
    · simp only [e, if_false]; exact hz j (by omega) h2
theorem M_isRing3 {b : B3} {σ : Sto} {K : Int32 → Sto → Prop} {S : Nat} (hM : MB σ S) {m c k : Nat} {g : Nat → Nat} (hm : m ≤ 6) (hk : k < m) (hG : ∀ j, j < m → gi σ 85 j = nI (g j)) (hg : ∀ j, g j < 6) {l3 s4 : AV} {u5 : AV} (h0 : (fnd (fun i => decide (g i = g k)) 0 k).isSome = true → K 0 σ) (h1 : (fnd (fun i => decide (g i = g k)) 0 k).isSome = false → Ev b 133 81 [aR (some 68), aI (nI m), aI (nI c), l3, s4, u5, aI (nI k), aI (nI k)] [] σ (eI K)) : ∀ (n i : Nat), i + n = k → (fnd (fun i => decide (g i = g k)) 0 k = fnd (fun i => decide (g i = g k)) i n) → Ev b 133 49 [aR (some 68), aI (nI m), aI (nI c), l3, s4, u5, aI (nI k), aI (nI i)] [] σ (eI K) := by
  intro n
  induction n with
  | zero =>
    intro i hi he
    have hi' : i = k := by omega
    subst hi'
    have hle : nI i ≤ nI i := Int32.le_refl _
    rw [v_133_49]
    simp only [z10, z00, not_true_eq_false, not_false_eq_true, false_implies, true_implies, implies_true, nI_1, Int32.add_zero, true_or, or_true, true_and, and_true, eI_eq, eL_eq, eR_eq, eV_eq, lg_cmp_ge, lg_cmp_le, lg_cmp_gt, lg_cmp_lt, lg_cmp_eq, v_133_51, v_133_53, v_133_56, v_133_57, v_133_60, v_133_62, v_133_63, v_133_64, v_133_67, v_133_69, v_133_70, v_133_73, v_133_74, v_133_75, v_133_78, hle]
    exact h1 (by rw [he]; rfl)
  | succ n ih =>
    intro i hi he
    have hle : ¬ nI k ≤ nI i := nI_ge (by omega) (by omega)
    have hci : (nI i).toNatClampNeg = i := nI_clamp (by omega)
    have hck : (nI k).toNatClampNeg = k := nI_clamp (by omega)
    have hgi : g i < 2 ^ 31 := Nat.lt_trans (hg i) (by decide)
    have hgk : g k < 2 ^ 31 := Nat.lt_trans (hg k) (by decide)
    rw [v_133_49]
    simp only [z10, z00, not_true_eq_false, not_false_eq_true, false_implies, true_implies, implies_true, nI_1, Int32.add_zero, true_or, or_true, true_and, and_true, eI_eq, eL_eq, eR_eq, eV_eq, lg_cmp_ge, lg_cmp_le, lg_cmp_gt, lg_cmp_lt, lg_cmp_eq, v_133_51, v_133_53, v_133_56, v_133_57, v_133_60, v_133_62, v_133_63, v_133_64, v_133_67, v_133_69, v_133_70, v_133_73, v_133_74, v_133_75, v_133_78, hle, hM.o, hM.r23, hM.x85 (k := i) (by omega), hM.x85 (k := k) (by omega), hci, hck, hG i (by omega), hG k hk, nI_eq hgi hgk]
    refine ⟨fun q => ih (i + 1) (by omega) ?_, fun q => h0 ?_⟩
    · rw [he]; simp [fnd, q]
    · rw [he]; simp [fnd, q]
theorem M_isRing2 {b : B3} {σ : Sto} {K : Int32 → Sto → Prop} {S : Nat} {o : Nat → Option Int64} (hM : MB σ S) (hF : RpB σ 81 83 o) {m c : Nat} {g : Nat → Nat} (h2m : 2 ≤ m) (hm : m ≤ 6) (hG : ∀ j, j < m → gi σ 85 j = nI (g j)) (hg : ∀ j, g j < 6) {l3 : Int32} : ∀ (n k : Nat) (s : Int64) (u7 : AV), k + n = m → K (bI (rgL o m g n k s)) σ → Ev b 133 40 [aR (some 68), aI (nI m), aI (nI c), aI l3, aL s, aU, aI (nI k), u7] [] σ (eI K) := by
  intro n
  induction n with
  | zero =>
    intro k s u7 hk h
    have hk' : k = m := by omega
    subst hk'
    have hle : nI k ≤ nI k := Int32.le_refl _
    rw [v_133_40]
    simp only [z10, z00, not_true_eq_false, not_false_eq_true, false_implies, true_implies, implies_true, nI_1, Int32.add_zero, true_or, or_true, true_and, and_true, eI_eq, eL_eq, eR_eq, eV_eq, lg_cmp_ge, lg_cmp_le, lg_cmp_gt, lg_cmp_lt, lg_cmp_eq, v_133_42, v_133_43, v_133_46, v_133_47, z10, z00, not_true_eq_false, not_false_eq_true, false_implies, true_implies, implies_true, nI_1, Int32.add_zero, true_or, or_true, true_and, and_true, eI_eq, eL_eq, eR_eq, eV_eq, lg_cmp_ge, lg_cmp_le, lg_cmp_gt, lg_cmp_lt, lg_cmp_eq, v_133_135, v_133_137, v_133_138, v_133_139, v_133_142, v_133_143, v_133_146, v_133_147, hle]
    simp only [rgL] at h
    exact ⟨fun g => by simpa [bI, Int64.not_lt.mpr g] using h, fun g => by simpa [bI, Int64.not_le.mp g] using h⟩
  | succ n ih =>
    intro k s u7 hk h
    have hle : ¬ nI m ≤ nI k := nI_ge (by omega) (by omega)
    have hck : (nI k).toNatClampNeg = k := nI_clamp (by omega)
    have hm0 : ¬ nI m = 0 := nI_ne0 (by omega) (by omega)
    have hmod : (k + 1) % m < m := Nat.mod_lt _ (by omega)
    have hrem : nI (k + 1) - nI (k + 1) / nI m * nI m = nI ((k + 1) % m) := pk_rem (by omega) (by omega) (by omega)
    have hcm : (nI ((k + 1) % m)).toNatClampNeg = (k + 1) % m := nI_clamp (by omega)
    have g1 := hg k
    have g2 := hg ((k + 1) % m)
    have kk : 6 * g k + g ((k + 1) % m) < 36 := by omega
    have hcc : (nI (6 * g k + g ((k + 1) % m))).toNatClampNeg = 6 * g k + g ((k + 1) % m) := nI_clamp (by omega)
    obtain ⟨r1, -⟩ := hF _ kk
    rw [v_133_40]
    simp only [z10, z00, not_true_eq_false, not_false_eq_true, false_implies, true_implies, implies_true, nI_1, Int32.add_zero, true_or, or_true, true_and, and_true, eI_eq, eL_eq, eR_eq, eV_eq, lg_cmp_ge, lg_cmp_le, lg_cmp_gt, lg_cmp_lt, lg_cmp_eq, v_133_42, v_133_43, v_133_46, v_133_47, hle]
    rw [← nI_0]
    simp only [rgL] at h
    refine M_isRing3 hM hm (show k < m by omega) hG hg (fun q => ?_) (fun q => ?_) k 0 (by omega) rfl
    · simpa [q, bI] using h
    · simp only [z10, z00, not_true_eq_false, not_false_eq_true, false_implies, true_implies, implies_true, nI_1, Int32.add_zero, true_or, or_true, true_and, and_true, eI_eq, eL_eq, eR_eq, eV_eq, lg_cmp_ge, lg_cmp_le, lg_cmp_gt, lg_cmp_lt, lg_cmp_eq, v_133_81, v_133_83, v_133_84, v_133_87, v_133_89, v_133_90, v_133_91, v_133_92, v_133_95, v_133_97, v_133_98, v_133_99, v_133_100, v_133_101, v_133_102, v_133_103, v_133_105, v_133_106, v_133_109, v_133_111, v_133_112, v_133_115, v_133_116, v_133_117, v_133_119, v_133_120, v_133_123, v_133_125, v_133_126, v_133_127, v_133_129, v_133_132, hM.o, hM.r19, hM.r21, hM.r23, hM.x85 (k := k) (by omega), hck, hm0, hrem, hM.x85 (k := (k + 1) % m) (by omega), hcm, hG k (by omega), hG _ hmod, ix6, hM.a81 (k := _) kk, hM.a83 (k := _) kk, hcc]
      rw [← r1] at h
      unfold oB at h
      simp only [q, Bool.false_eq_true, if_false] at h
      refine ⟨fun q2 => ih (k + 1) _ _ (by omega) (by simpa [q2] using h), fun q2 => by simpa [q2, bI] using h⟩
theorem dig_lt (m c k : Nat) : dig m c k < 6 := Nat.mod_lt _ (by decide)
def rgB (o : Nat → Option Int64) (m c : Nat) : Bool := rgL o m (dig m c) m 0 0
theorem M_isRing {d : Nat} {σ : Sto} {K : Int32 → Sto → Prop} {S : Nat} {o : Nat → Option Int64} (hM : MB σ S) (hF : RpB σ 81 83 o) {m c : Nat} (h2m : 2 ≤ m) (hm : m ≤ 6) (hc : c < 2 ^ 31) (h : ∀ σ2, scG σ σ2 → (∀ j, j < m → gi σ2 85 j = nI (dig m c j)) → K (bI (rgB o m c)) σ2) : CI d 133 [aR (some 68), aI (nI m), aI (nI c)] σ K := by
  refine CI_of ?_
  show Ev (d, 0, 0) 133 0 [aR (some 68), aI (nI m), aI (nI c), aU, aU, aU, aU, aU] [] σ _
  simp only [v_133_0, v_133_1, v_133_2, v_133_3, v_133_4, v_133_5]
  have e1 : nI m - 1 = nI m + (-1) := by rw [show m = (m - 1) + 1 by omega, pk_m1, nI_pred]
  rw [e1]
  have := M_isRing1 (b := (d, 0, 0)) (Q := eI K) (u5 := aU) (u6 := aU) (u7 := aU) hM hm hc m σ (by omega) (scG.rfl σ) (fun j h1 h2 => by omega) (fun σ2 r q1 q2 => by
    simp only [v_133_34, v_133_35, v_133_37, v_133_38]
    rw [← nI_0]
    exact M_isRing2 (q1.mb hM) (q1.rp (by decide) hF) h2m hm q2 (dig_lt m c) m 0 0 _ (by omega) (h σ2 q1 q2))
  simpa using this
/-- the first that is one, of m services -/
def rgM (o : Nat → Option Int64) (m : Nat) : Option Nat := fnd (rgB o m) 0 (6 ^ m)
def rgS (o : Nat → Option Int64) : Nat → Nat → Option (Nat × Nat)
  | _, 0 => none
  | m, n + 1 => match rgM o m with
    | some c => some (m, c)
    | none => rgS o (m + 1) n
def rgA (o : Nat → Option Int64) (i : Nat) : Int32 := match rgS o 2 5 with
  | none => -1
  | some (m, c) => if i < m then nI (dig m c i) else -1
theorem M_ring_in {d : Nat} {σ : Sto} {K : Int32 → Sto → Prop} {S : Nat} {o : Nat → Option Int64} (hM : MB σ S) (hF : RpB σ 81 83 o) {m a i : Nat} (h2m : 2 ≤ m) (hm : m ≤ 6) (ha : a ≤ 46656) (hi : i < 2 ^ 31) : ∀ (n c : Nat) (σ1 : Sto), c + n = a → scG σ σ1 → (∀ c', fnd (rgB o m) c n = some c' → ∀ σ2, scG σ σ2 → K (if i < m then nI (dig m c' i) else -1) σ2) → (fnd (rgB o m) c n = none → ∀ σ2, scG σ σ2 → Ev (d + 1, 0, 0) 134 70 [aR (some 68), aI (nI i), aI (nI a), aI (nI m), aI (nI a)] [] σ2 (eI K)) → Ev (d + 1, 0, 0) 134 32 [aR (some 68), aI (nI i), aI (nI a), aI (nI m), aI (nI c)] [] σ1 (eI K) := by
  intro n
  induction n with
  | zero =>
    intro c σ1 hc hs h1 h0
    have hc' : c = a := by omega
    subst hc'
    have hle : nI c ≤ nI c := Int32.le_refl _
    rw [v_134_32]
    simp only [z10, z00, not_true_eq_false, not_false_eq_true, false_implies, true_implies, implies_true, nI_1, Int32.add_zero, true_or, or_true, true_and, and_true, eI_eq, eL_eq, eR_eq, eV_eq, lg_cmp_ge, lg_cmp_le, lg_cmp_gt, lg_cmp_lt, lg_cmp_eq, v_134_34, v_134_35, v_134_38, v_134_39, v_134_40, v_134_42, v_134_45, v_134_48, v_134_49, v_134_50, v_134_53, v_134_54, v_134_57, v_134_58, v_134_59, v_134_62, v_134_63, v_134_64, v_134_67, hle]
    exact h0 rfl σ1 hs
  | succ n ih =>
    intro c σ1 hc hs h1 h0
    have hle : ¬ nI a ≤ nI c := nI_ge (by omega) (by omega)
    have hM1 := hs.mb hM
    rw [v_134_32]
    simp only [z10, z00, not_true_eq_false, not_false_eq_true, false_implies, true_implies, implies_true, nI_1, Int32.add_zero, true_or, or_true, true_and, and_true, eI_eq, eL_eq, eR_eq, eV_eq, lg_cmp_ge, lg_cmp_le, lg_cmp_gt, lg_cmp_lt, lg_cmp_eq, v_134_34, v_134_35, v_134_38, v_134_39, v_134_40, v_134_42, v_134_45, v_134_48, v_134_49, v_134_50, v_134_53, v_134_54, v_134_57, v_134_58, v_134_59, v_134_62, v_134_63, v_134_64, v_134_67, hle, hM1.o]
    refine M_isRing hM1 (hs.rp (by decide) hF) h2m hm (by omega) (fun σ2 q1 q2 => ?_)
    have hs2 := hs.trans q1
    have hM2 := hs2.mb hM
    have ef : fnd (rgB o m) c (n + 1) = if rgB o m c = true then some c else fnd (rgB o m) (c + 1) n := rfl
    rw [ef] at h1 h0
    cases hb : rgB o m c with
    | false =>
      simp only [bI, Bool.false_eq_true, if_false, z10, z00, not_true_eq_false, not_false_eq_true, false_implies, true_implies, implies_true, true_and, and_true, true_or, or_true, false_and, and_false, false_or, or_false]
      simp only [hb, Bool.false_eq_true, if_false] at h1 h0
      exact ih (c + 1) σ2 (by omega) hs2 h1 h0
    | true =>
      simp only [bI, if_true, z10, z00, not_true_eq_false, not_false_eq_true, false_implies, true_implies, implies_true, true_and, and_true, true_or, or_true, false_and, and_false, false_or, or_false]
      have h1 := h1 c (by rw [if_pos hb]) σ2 hs2
      refine ⟨fun g => ?_, fun g => ?_⟩
      · have hlt : ¬ i < m := fun q => (nI_ge q (by omega)) g
        simpa [hlt] using h1
      · have hlt : i < m := Nat.not_le.mp (fun q => g (nI_le q (by omega)))
        have hci : (nI i).toNatClampNeg = i := nI_clamp (by omega)
        simp only [z10, z00, not_true_eq_false, not_false_eq_true, false_implies, true_implies, implies_true, nI_1, Int32.add_zero, true_or, or_true, true_and, and_true, eI_eq, eL_eq, eR_eq, eV_eq, lg_cmp_ge, lg_cmp_le, lg_cmp_gt, lg_cmp_lt, lg_cmp_eq, v_134_34, v_134_35, v_134_38, v_134_39, v_134_40, v_134_42, v_134_45, v_134_48, v_134_49, v_134_50, v_134_53, v_134_54, v_134_57, v_134_58, v_134_59, v_134_62, v_134_63, v_134_64, v_134_67, hM2.o, hM2.r23, hM2.x85 (k := i) (by omega), hci, q2 i hlt]
        simpa [hlt] using h1
theorem mul6 (a : Nat) : nI a * 6 = nI (a * 6) := by rw [show (6 : Int32) = nI 6 from rfl, pk_mul]
theorem M_ring_loop {d : Nat} {σ : Sto} {K : Int32 → Sto → Prop} {S : Nat} {o : Nat → Option Int64} (hM : MB σ S) (hF : RpB σ 81 83 o) {i : Nat} (hi : i < 2 ^ 31) : ∀ (n m : Nat) (σ1 : Sto) (u4 : AV), m + n = 7 → 2 ≤ m → scG σ σ1 → (∀ σ2, scG σ σ2 → K (match rgS o m n with
    | none => -1
    | some (m, c) => if i < m then nI (dig m c i) else -1) σ2) → Ev (d + 1, 0, 0) 134 18 [aR (some 68), aI (nI i), aI (nI (6 ^ (m - 1))), aI (nI m), u4] [] σ1 (eI K) := by
  intro n
  induction n with
  | zero =>
    intro m σ1 u4 hm h2 hs h
    have hm' : m = 7 := by omega
    subst hm'
    have c1 : (6 : Int32) < nI 7 := by decide
    rw [v_134_18]
    simp only [z10, z00, not_true_eq_false, not_false_eq_true, false_implies, true_implies, implies_true, nI_1, Int32.add_zero, true_or, or_true, true_and, and_true, eI_eq, eL_eq, eR_eq, eV_eq, lg_cmp_ge, lg_cmp_le, lg_cmp_gt, lg_cmp_lt, lg_cmp_eq, v_134_19, v_134_21, v_134_24, v_134_25, v_134_27, v_134_28, v_134_29, v_134_30, v_134_76, v_134_77, c1]
    exact h σ1 hs
  | succ n ih =>
    intro m σ1 u4 hm h2 hs h
    have c1 : ¬ (6 : Int32) < nI m := nI_nlt (a := 6) (b := m) (by omega) (by omega)
    have ep : 6 ^ (m - 1) * 6 = 6 ^ m := by rw [← Nat.pow_succ, show (m - 1).succ = m by omega]
    have hle : 6 ^ m ≤ 46656 := Nat.pow_le_pow_right (n := 6) (by omega) (show m ≤ 6 by omega)
    rw [v_134_18]
    simp only [z10, z00, not_true_eq_false, not_false_eq_true, false_implies, true_implies, implies_true, nI_1, Int32.add_zero, true_or, or_true, true_and, and_true, eI_eq, eL_eq, eR_eq, eV_eq, lg_cmp_ge, lg_cmp_le, lg_cmp_gt, lg_cmp_lt, lg_cmp_eq, v_134_19, v_134_21, v_134_24, v_134_25, v_134_27, v_134_28, v_134_29, v_134_30, c1, mul6, ep]
    rw [← nI_0]
    have es : rgS o m (n + 1) = match rgM o m with
      | some c => some (m, c)
      | none => rgS o (m + 1) n := rfl
    rw [es] at h
    refine M_ring_in hM hF h2 (by omega) hle hi (6 ^ m) 0 σ1 (by omega) hs (fun c' e σ2 q => ?_) (fun e σ2 q => ?_)
    · have := h σ2 q
      rw [show rgM o m = some c' from e] at this
      exact this
    · rw [v_134_70]
      simp only [v_134_73, nI_1]
      have := ih (m + 1) σ2 (aI (nI (6 ^ m))) (by omega) (by omega) q (fun σ3 q3 => by
        have := h σ3 q3
        rw [show rgM o m = none from e] at this
        exact this)
      simpa using this
theorem M_ring {d : Nat} {σ : Sto} {x : Int32} {K : Int32 → Sto → Prop} {S : Nat} (hM : MB σ S) (hV : ∀ k, k < S → okV (rwM σ k)) (h0 : x < 0 → K (-1) σ) (hA : ¬ x < 0 → agB (fwA (bdA σ S)) = true → ∀ σ2, sc4 σ σ2 → K (-1) σ2) (h : ∀ i, i < 2 ^ 31 → x = nI i → agB (fwA (bdA σ S)) = false → ∀ σ1 σ2, sc4 σ σ1 → scG σ1 σ2 → K (rgA (bdA σ S) i) σ2) : CI (d + 5) 134 [aR (some 68), aI x] σ K := by
  refine CI_of ?_
  show Ev (d + 5, 0, 0) 134 0 [aR (some 68), aI x, aU, aU, aU] [] σ _
  simp only [z10, z00, not_true_eq_false, not_false_eq_true, false_implies, true_implies, implies_true, nI_1, Int32.add_zero, true_or, or_true, true_and, and_true, eI_eq, eL_eq, eR_eq, eV_eq, lg_cmp_ge, lg_cmp_le, lg_cmp_gt, lg_cmp_lt, lg_cmp_eq, v_134_0, v_134_1, v_134_4, v_134_5, v_134_8, v_134_11, v_134_12, v_134_13, v_134_15, v_134_16, v_134_17, v_134_19, v_134_21, v_134_24, v_134_25, v_134_27, v_134_28, v_134_29, v_134_30, v_134_32, v_134_34, v_134_35, v_134_38, v_134_39, v_134_40, v_134_42, v_134_45, v_134_48, v_134_49, v_134_50, v_134_53, v_134_54, v_134_57, v_134_58, v_134_59, v_134_62, v_134_63, v_134_64, v_134_67, v_134_70, v_134_73, v_134_76, v_134_77, hM.o]
  refine ⟨fun g => h0 g, fun g => M_agree hM hV (fun σ2 q1 q2 q3 => ?_)⟩
  obtain ⟨i, hi, ei⟩ := nI_of g
  cases hag : agB (fwA (bdA σ S)) with
  | true =>
    simp only [bI, if_true, z10, z00, not_true_eq_false, not_false_eq_true, false_implies, true_implies, implies_true, true_and, and_true, true_or, or_true, false_and, and_false, false_or, or_false]
    exact hA g hag σ2 q1
  | false =>
    simp only [bI, Bool.false_eq_true, if_false, z10, z00, not_true_eq_false, not_false_eq_true, false_implies, true_implies, implies_true, true_and, and_true, true_or, or_true, false_and, and_false, false_or, or_false]
    subst ei
    have := M_ring_loop (d := d + 4) (K := K) (q1.mb hM) q2 hi 5 2 σ2 aU (by omega) (by omega) (scG.rfl σ2) (fun σ3 g3 => h i hi rfl hag σ2 σ3 q1 g3)
    exact this
