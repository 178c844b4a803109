/-! the class: clocks -/
def NOv : Int64 := -9223372036854775808
/-- an array of bounds, where the least long says that there is none -/
def RpX (σ : Sto) (a : Nat) (o : Nat → Option Int64) : Prop := ∀ k, k < 36 → gl σ a k = oL (o k) ∧ ¬ o k = some (-9223372036854775808)
def scZ (a : Nat) (σ σ' : Sto) : Prop := sn σ' = sn σ ∧ gr σ' = gr σ ∧ gi σ' = gi σ ∧ (∀ b, b ≠ a → gl σ' b = gl σ b)
theorem scZ.rfl (a : Nat) (σ : Sto) : scZ a σ σ := ⟨Eq.refl _, Eq.refl _, Eq.refl _, fun _ _ => Eq.refl _⟩
theorem scZ.trans {a : Nat} {σ σ' σ'' : Sto} (h1 : scZ a σ σ') (h2 : scZ a σ' σ'') : scZ a σ σ'' := ⟨h2.1.trans h1.1, h2.2.1.trans h1.2.1, h2.2.2.1.trans h1.2.2.1, fun b e => (h2.2.2.2 b e).trans (h1.2.2.2 b e)⟩
theorem scZ.xb {a : Nat} {σ σ' : Sto} (h : scZ a σ σ') (hX : XB σ) : XB σ' := XB_of (Nat.le_of_eq h.1.symm) (fun b k _ _ => by rw [h.2.1]) hX
theorem scZ.l (a : Nat) (σ : Sto) (k : Nat) (v : Int64) : scZ a σ (sl σ a k v) := ⟨Eq.refl _, Eq.refl _, Eq.refl _, fun b hb => by rw [gl_sl_r, if_neg hb]⟩
theorem oL_no {o : Option Int64} (h : ¬ o = some (-9223372036854775808)) : oL o = -9223372036854775808 ↔ o = none := by
  cases o with
  | none => exact ⟨fun _ => rfl, fun _ => rfl⟩
  | some v => exact ⟨fun q => absurd (by rw [← q]; rfl) h, fun q => by cases q⟩
theorem lowO_no {o : Option Int64} {v : Int64} (h : ¬ o = some (-9223372036854775808)) (hv : ¬ v = -9223372036854775808) : ¬ lowO o v = some (-9223372036854775808) := by
  unfold lowO
  cases o with
  | none => intro q; cases q; exact hv rfl
  | some w =>
    simp only [Option.some.injEq]
    split
    · exact hv
    · intro q; exact h (by rw [q])
theorem X_lower {d : Nat} {σ : Sto} {K : Sto → Prop} {a k : Nat} {v : Int64} {o : Nat → Option Int64} (hk : k < 36) (hA : okA σ a 8 (nI k)) (hR : RpX σ a o) (hv : ¬ v = -9223372036854775808) (h : ∀ σ', scZ a σ σ' → RpX σ' a (up1 o k (lowO (o k) v)) → K σ') : CV d 3 [aR (some a), aI (nI k), aL v] σ K := by
  have hc : (nI k).toNatClampNeg = k := nI_clamp (by omega)
  obtain ⟨r1, r2⟩ := hR k hk
  refine CV_of ?_
  show Ev (d, 0, 0) 3 0 [aR (some a), aI (nI k), aL v, aU] [] σ _
  simp only [z10, z00, not_true_eq_false, not_false_eq_true, false_implies, true_implies, implies_true, nI_1, Int32.add_zero, true_or, or_true, true_and, and_true, eI_eq, eL_eq, eR_eq, eV_eq, lg_cmp_ge, lg_cmp_le, lg_cmp_gt, lg_cmp_lt, lg_cmp_eq, v_3_0, v_3_1, v_3_2, v_3_3, v_3_6, v_3_7, v_3_10, v_3_11, v_3_12, v_3_13, v_3_14, v_3_15, v_3_18, v_3_19, v_3_20, v_3_21, v_3_22, hA, hc, r1, oL_no r2]
  have put : oL (lowO (o k) v) = v → K (sl σ a k v) := by
    intro e
    refine h _ (scZ.l a σ k v) (fun j hj => ?_)
    unfold up1
    rw [gl_sl_k]
    by_cases q : j = k
    · rw [if_pos ⟨rfl, q⟩, if_pos q]
      exact ⟨e.symm, lowO_no r2 hv⟩
    · rw [if_neg (fun z => q z.2), if_neg q]
      exact hR j hj
  refine ⟨fun g => put (by rw [g]; rfl), fun g => ⟨fun g2 => ?_, fun g2 => put ?_⟩⟩
  · refine h σ (scZ.rfl a σ) (fun j hj => ?_)
    unfold up1
    by_cases q : j = k
    · rw [if_pos q, q]
      cases ho : o k with
      | none => exact absurd ho g
      | some w =>
        rw [ho] at g2 r1 r2
        have : ¬ v < w := Int64.not_lt.mpr g2
        have e : lowO (some w) v = some w := by unfold lowO; simp only; rw [if_neg this]
        rw [e]
        exact ⟨r1, r2⟩
    · rw [if_neg q]
      exact hR j hj
  · cases ho : o k with
    | none => exact absurd ho g
    | some w =>
      rw [ho] at g2
      have : v < w := Int64.not_le.mp g2
      have e : lowO (some w) v = some v := by unfold lowO; simp only; rw [if_pos this]
      rw [e]
      rfl
theorem X_fill_loop {b : B3} {σ : Sto} {K : Sto → Prop} {a n : Nat} {v : Int64} (hn : n < 2 ^ 31) (hA : ∀ k, k < n → okA σ a 8 (nI k)) : ∀ (m k : Nat) (σ1 : Sto), k + m = n → scZ a σ σ1 → (∀ j, j < k → gl σ1 a j = v) → (∀ σ2, scZ a σ σ2 → (∀ j, j < n → gl σ2 a j = v) → K σ2) → Ev b 167 6 [aR (some a), aL v, aU, aI (nI k), aI (nI n)] [] σ1 (eV K) := by
  intro m
  induction m with
  | zero =>
    intro k σ1 hk hs hz h
    have hk' : k = n := by omega
    subst hk'
    have hle : nI k ≤ nI k := Int32.le_refl _
    rw [v_167_6]
    simp only [z10, z00, not_true_eq_false, not_false_eq_true, false_implies, true_implies, implies_true, nI_1, Int32.add_zero, true_or, or_true, true_and, and_true, eI_eq, eL_eq, eR_eq, eV_eq, lg_cmp_ge, lg_cmp_le, lg_cmp_gt, lg_cmp_lt, lg_cmp_eq, v_167_7, v_167_9, v_167_12, v_167_13, v_167_14, v_167_15, v_167_16, v_167_19, v_167_22, hle]
    exact h σ1 hs hz
  | succ m ih =>
    intro k σ1 hk hs hz h
    have hle : ¬ nI n ≤ nI k := nI_ge (by omega) (by omega)
    have hc : (nI k).toNatClampNeg = k := nI_clamp (by omega)
    have hA1 : okA σ1 a 8 (nI k) := okA_of hs.1 (hA k (by omega))
    rw [v_167_6]
    simp only [z10, z00, not_true_eq_false, not_false_eq_true, false_implies, true_implies, implies_true, nI_1, Int32.add_zero, true_or, or_true, true_and, and_true, eI_eq, eL_eq, eR_eq, eV_eq, lg_cmp_ge, lg_cmp_le, lg_cmp_gt, lg_cmp_lt, lg_cmp_eq, v_167_7, v_167_9, v_167_12, v_167_13, v_167_14, v_167_15, v_167_16, v_167_19, v_167_22, hle, hA1, hc]
    refine ih (k + 1) _ (by omega) (hs.trans (scZ.l a σ1 k v)) (fun j hj => ?_) h
    rw [gl_sl_k]
    by_cases q : j = k
    · rw [if_pos ⟨rfl, q⟩]
    · rw [if_neg (fun z => q z.2)]
      exact hz j (by omega)
theorem X_fill {d : Nat} {σ : Sto} {K : Sto → Prop} {a n : Nat} {v : Int64} (hn : n < 2 ^ 31) (ha : a ≠ 0) (ha2 : a < sn σ) (hk : kd a = (8, n)) (hA : ∀ k, k < n → okA σ a 8 (nI k)) (h : ∀ σ2, scZ a σ σ2 → (∀ j, j < n → gl σ2 a j = v) → K σ2) : CV d 167 [aR (some a), aL v] σ K := by
  refine CV_of ?_
  show Ev (d, 0, 0) 167 0 [aR (some a), aL v, aU, aU, aU] [] σ _
  have oL' : okL σ a := by
    unfold okL
    rw [hk]
    simp [ha2, ha]
  have el : Int32.ofNat (aln σ a) = nI n := by
    unfold aln
    rw [hk, if_neg ha]
    rfl
  simp only [z10, z00, not_true_eq_false, not_false_eq_true, false_implies, true_implies, implies_true, nI_1, Int32.add_zero, true_or, or_true, true_and, and_true, eI_eq, eL_eq, eR_eq, eV_eq, lg_cmp_ge, lg_cmp_le, lg_cmp_gt, lg_cmp_lt, lg_cmp_eq, v_167_0, v_167_1, v_167_2, v_167_3, v_167_4, oL', el]
  have := X_fill_loop (b := (d, 0, 0)) (K := K) (v := v) hn hA n 0 σ (by omega) (scZ.rfl a σ) (fun j hj => by omega) h
  simpa only [nI_0] using this
theorem X_forgetBounds {d : Nat} {σ : Sto} {K : Sto → Prop} (hX : XB σ) (h : ∀ σ', scZ 8 σ σ' → RpX σ' 8 (fun _ => none) → K σ') : CV (d + 1) 1 [aR (some 7)] σ K := by
  have hsn := hX.s
  refine CV_of ?_
  show Ev (d + 1, 0, 0) 1 0 [aR (some 7)] [] σ _
  simp only [z10, z00, not_true_eq_false, not_false_eq_true, false_implies, true_implies, implies_true, nI_1, Int32.add_zero, true_or, or_true, true_and, and_true, eI_eq, eL_eq, eR_eq, eV_eq, lg_cmp_ge, lg_cmp_le, lg_cmp_gt, lg_cmp_lt, lg_cmp_eq, v_1_0, v_1_1, v_1_4, v_1_7, v_1_10, hX.o7, hX.r7_0]
  refine X_fill (n := 36) (by decide) (by decide) (by omega) (by decide) (fun k hk => hX.a8 hk) (fun σ2 h1 h2 => ?_)
  exact h σ2 h1 (fun k hk => ⟨h2 k hk, by simp⟩)
/-- what a pair tells -/
def lnR (p k : Rw) (o : Nat → Option Int64) : Nat → Option Int64 :=
  if rK k = 2 then up1 (up1 o (6 * (rV p).toNatClampNeg + (rV k).toNatClampNeg) (lowO (o (6 * (rV p).toNatClampNeg + (rV k).toNatClampNeg)) (rB k - rB p))) (6 * (rV k).toNatClampNeg + (rV p).toNatClampNeg) (lowO (up1 o (6 * (rV p).toNatClampNeg + (rV k).toNatClampNeg) (lowO (o (6 * (rV p).toNatClampNeg + (rV k).toNatClampNeg)) (rB k - rB p)) (6 * (rV k).toNatClampNeg + (rV p).toNatClampNeg)) (rE p - rE k))
  else up1 o (6 * (rV p).toNatClampNeg + (rV k).toNatClampNeg) (lowO (o (6 * (rV p).toNatClampNeg + (rV k).toNatClampNeg)) (rB k - rE p))
theorem lN_dif {a b : Nat} (ha : a ≤ 1000000000) (hb : b ≤ 1000000000) : ¬ lN a - lN b = -9223372036854775808 ∧ (lN a - lN b).toInt = (a : Int) - b := by
  have t1 := lN_toInt (n := a) (by omega)
  have t2 := lN_toInt (n := b) (by omega)
  have e : (lN a - lN b).toInt = (a : Int) - b := by rw [fb_subL (by omega) (by omega), t1, t2]
  refine ⟨fun q => ?_, e⟩
  rw [q] at e
  have : (-9223372036854775808 : Int64).toInt = -9223372036854775808 := by decide
  omega
theorem ix6' (x y : Nat) : nI x * 6 + nI y = nI (6 * x + y) := by rw [show (6 : Int32) = nI 6 from rfl, pk_mul, nI_add, Nat.mul_comm]
theorem X_learn {d : Nat} {σ : Sto} {K : Sto → Prop} {p k : Nat} {tp tk : Int32} {o : Nat → Option Int64} (hX : XB σ) (hp : okO σ p 1) (hk : okO σ k 1) (hp3 : 103 ≤ p) (hk3 : 103 ≤ k) (hRp : okR (rwX σ tp p)) (hRk : okR (rwX σ tk k)) (hR : RpX σ 8 o) (h : ∀ σ', scZ 8 σ σ' → RpX σ' 8 (lnR (rwX σ 0 p) (rwX σ 0 k) o) → K σ') : CV (d + 1) 2 [aR (some 7), aR (some p), aR (some k)] σ K := by
  obtain ⟨-, -, -, ⟨x, hx, ex⟩, -, -, -, ⟨b1, e1, hb1, he1, eb1, ee1⟩⟩ := hRp
  obtain ⟨-, -, -, ⟨y, hy, ey⟩, -, -, -, ⟨b2, e2, hb2, he2, eb2, ee2⟩⟩ := hRk
  have ex' : gi σ p 2 = nI x := ex
  have ey' : gi σ k 2 = nI y := ey
  have eb1' : gl σ p 6 = lN b1 := eb1
  have ee1' : gl σ p 7 = lN e1 := ee1
  have eb2' : gl σ k 6 = lN b2 := eb2
  have ee2' : gl σ k 7 = lN e2 := ee2
  have cx : (nI x).toNatClampNeg = x := nI_clamp (by omega)
  have cy : (nI y).toNatClampNeg = y := nI_clamp (by omega)
  have kxy : 6 * x + y < 36 := by omega
  have kyx : 6 * y + x < 36 := by omega
  have f1 : rV (rwX σ 0 p) = nI x := ex
  have f2 : rV (rwX σ 0 k) = nI y := ey
  have f3 : rB (rwX σ 0 p) = lN b1 := eb1
  have f4 : rE (rwX σ 0 p) = lN e1 := ee1
  have f5 : rB (rwX σ 0 k) = lN b2 := eb2
  have f6 : rE (rwX σ 0 k) = lN e2 := ee2
  have f7 : rK (rwX σ 0 k) = gi σ k 4 := rfl
  unfold lnR at h
  rw [f1, f2, f3, f4, f5, f6, f7, cx, cy] at h
  refine CV_of ?_
  show Ev (d + 1, 0, 0) 2 0 [aR (some 7), aR (some p), aR (some k), aU, aU] [] σ _
  simp only [z10, z00, not_true_eq_false, not_false_eq_true, false_implies, true_implies, implies_true, nI_1, Int32.add_zero, true_or, or_true, true_and, and_true, eI_eq, eL_eq, eR_eq, eV_eq, lg_cmp_ge, lg_cmp_le, lg_cmp_gt, lg_cmp_lt, lg_cmp_eq, v_2_0, v_2_1, v_2_4, v_2_5, v_2_6, v_2_9, v_2_11, v_2_12, v_2_15, v_2_16, v_2_19, v_2_20, v_2_23, v_2_24, v_2_26, v_2_27, v_2_29, v_2_30, v_2_31, v_2_34, v_2_35, v_2_38, v_2_39, z10, z00, not_true_eq_false, not_false_eq_true, false_implies, true_implies, implies_true, nI_1, Int32.add_zero, true_or, or_true, true_and, and_true, eI_eq, eL_eq, eR_eq, eV_eq, lg_cmp_ge, lg_cmp_le, lg_cmp_gt, lg_cmp_lt, lg_cmp_eq, v_2_68, v_2_69, v_2_72, v_2_73, v_2_75, v_2_76, v_2_78, v_2_79, v_2_80, v_2_83, v_2_84, v_2_87, v_2_88, hp, hk, ex', ey', eb1', eb2', ee1', hX.o7, hX.r7_0, ix6']
  refine ⟨fun g => ?_, fun g => ?_⟩
  · rw [if_neg g] at h
    refine X_lower kxy (hX.a8 kxy) hR (lN_dif (by omega) (by omega)).1 (fun σ1 s1 r1 => ?_)
    simp only [v_2_91, eV_eq]
    exact h σ1 s1 r1
  · rw [if_pos g] at h
    refine X_lower kxy (hX.a8 kxy) hR (lN_dif (by omega) (by omega)).1 (fun σ1 s1 r1 => ?_)
    have hX1 := s1.xb hX
    have g1 : gl σ1 p 7 = lN e1 := by rw [s1.2.2.2 p (by omega)]; exact ee1'
    have g2 : gl σ1 k 7 = lN e2 := by rw [s1.2.2.2 k (by omega)]; exact ee2'
    simp only [z10, z00, not_true_eq_false, not_false_eq_true, false_implies, true_implies, implies_true, nI_1, Int32.add_zero, true_or, or_true, true_and, and_true, eI_eq, eL_eq, eR_eq, eV_eq, lg_cmp_ge, lg_cmp_le, lg_cmp_gt, lg_cmp_lt, lg_cmp_eq, v_2_42, v_2_43, v_2_46, v_2_48, v_2_50, v_2_51, v_2_52, v_2_53, v_2_54, v_2_57, v_2_58, v_2_61, v_2_62, v_2_65, okO_of s1.1 hp, okO_of s1.1 hk, g1, g2, hX1.o7, hX1.r7_0, ix6']
    refine X_lower kyx (hX1.a8 kyx) r1 (lN_dif (by omega) (by omega)).1 (fun σ2 s2 r2 => ?_)
    simp only [v_2_65, v_2_91, eV_eq]
    exact h σ2 (s1.trans s2) r2
