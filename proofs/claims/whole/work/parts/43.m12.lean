/-! the reference: one row written; slow, quota, stands, kept -/
def stM (σ : Sto) (k : Nat) (r : Rw) : Sto := sl (sl (si (si (si (si (si (si (si σ 69 k (rT r)) 70 k (rN r)) 71 k (rP r)) 72 k (rV r)) 73 k (rC r)) 74 k (rK r)) 75 k (rF r)) 76 k (rB r)) 77 k (rE r)
theorem M_set {d : Nat} {σ : Sto} {K : Sto → Prop} {S k : Nat} (hM : MB σ S) (hk : k < 200) {t n p v c x : Int32} {b e : Int64} (h : K (stM σ k (t, n, p, v, c, x - x / 8 * 8, x / 8, b, e))) : CV d 111 [aR (some 68), aI (nI k), aI t, aI n, aI p, aI v, aI c, aI x, aL b, aL e] σ K := by
  have hc : (nI k).toNatClampNeg = k := nI_clamp (by omega)
  have z8 : ((8 : Int32) = 0) = False := eq_false (by decide)
  refine CV_of ?_
  show Ev (d, 0, 0) 111 0 [aR (some 68), aI (nI k), aI t, aI n, aI p, aI v, aI c, aI x, aL b, aU, aL e, aU] [] σ _
  simp only [z10, z00, not_true_eq_false, not_false_eq_true, false_implies, true_implies, implies_true, nI_1, Int32.add_zero, true_or, or_true, true_and, and_true, eI_eq, eL_eq, eR_eq, eV_eq, lg_cmp_ge, lg_cmp_le, lg_cmp_gt, lg_cmp_lt, lg_cmp_eq, v_111_0, v_111_1, v_111_4, v_111_5, v_111_6, v_111_7, v_111_8, v_111_11, v_111_12, v_111_13, v_111_14, v_111_15, v_111_18, v_111_19, v_111_21, v_111_22, v_111_23, v_111_26, v_111_27, v_111_29, v_111_30, v_111_31, v_111_34, v_111_35, v_111_37, v_111_38, v_111_39, v_111_42, v_111_43, v_111_45, v_111_47, v_111_48, v_111_49, v_111_50, v_111_53, v_111_54, v_111_56, v_111_58, v_111_59, v_111_60, v_111_61, v_111_64, v_111_65, v_111_67, v_111_68, v_111_69, v_111_72, v_111_73, v_111_75, v_111_76, z8, hc, hM.o, hM.r1, hM.r2, hM.r3, hM.r4, hM.r5, hM.r6, hM.r7, hM.r8, hM.r9, hM.a69 hk, hM.a70 hk, hM.a71 hk, hM.a72 hk, hM.a73 hk, hM.a74 hk, hM.a75 hk, hM.a76 hk, hM.a77 hk, okO_si, okO_sl, okA_si, okA_sl, gr_si_r, gr_sl_r]
  exact h
theorem M_slow {d : Nat} {σ : Sto} {K : Int32 → Sto → Prop} {S : Nat} (hM : MB σ S) {a x : Int32} (h0 : (a < 0 ∨ 8 ≤ a) → K (-1) σ) (hB : ¬ (a < 0 ∨ 8 ≤ a) → (x < 0 ∨ 1000000000 < x) → K (-2) σ) (h : ∀ j, j < 8 → a = nI j → ¬ x < 0 → ¬ 1000000000 < x → K (gi σ 97 j) (si σ 97 j x)) : CI (d + 1) 149 [aR (some 68), aI a, aI x] σ K := by
  refine CI_of ?_
  show Ev (d + 1, 0, 0) 149 0 [aR (some 68), aI a, aI x, aU] [] σ _
  simp only [z10, z00, not_true_eq_false, not_false_eq_true, false_implies, true_implies, implies_true, nI_1, Int32.add_zero, true_or, or_true, true_and, and_true, eI_eq, eL_eq, eR_eq, eV_eq, lg_cmp_ge, lg_cmp_le, lg_cmp_gt, lg_cmp_lt, lg_cmp_eq, v_149_0, v_149_1, v_149_2, v_149_5, v_149_8, v_149_9, v_149_10, v_149_11, v_149_14, v_149_15, v_149_17, v_149_20, v_149_22, v_149_23, v_149_24, v_149_27, v_149_28, v_149_29, v_149_30, v_149_31, v_149_34, v_149_35, v_149_36, v_149_37, v_149_38, hM.o]
  refine M_isAct (fun c => ?_) (fun c1 c2 => ?_)
  · simp only [z10, z00, not_true_eq_false, not_false_eq_true, false_implies, true_implies, implies_true, true_and, and_true, true_or, or_true, false_and, and_false, false_or, or_false]
    exact h0 c
  · obtain ⟨j, hj, ej⟩ := ix_of (n := 8) (by decide) c1 c2
    subst ej
    have hc : (nI j).toNatClampNeg = j := nI_clamp (by omega)
    have nn : ¬ (nI j < 0 ∨ 8 ≤ nI j) := fun q => q.elim c1 c2
    simp only [z10, z00, not_true_eq_false, not_false_eq_true, false_implies, true_implies, implies_true, nI_1, Int32.add_zero, true_or, or_true, true_and, and_true, eI_eq, eL_eq, eR_eq, eV_eq, lg_cmp_ge, lg_cmp_le, lg_cmp_gt, lg_cmp_lt, lg_cmp_eq, v_149_0, v_149_1, v_149_2, v_149_5, v_149_8, v_149_9, v_149_10, v_149_11, v_149_14, v_149_15, v_149_17, v_149_20, v_149_22, v_149_23, v_149_24, v_149_27, v_149_28, v_149_29, v_149_30, v_149_31, v_149_34, v_149_35, v_149_36, v_149_37, v_149_38, hM.o, z10, z00, not_true_eq_false, not_false_eq_true, false_implies, true_implies, implies_true, true_and, and_true, true_or, or_true, false_and, and_false, false_or, or_false, hc, hM.r37, hM.x97 hj, hM.a97 hj]
    refine ⟨fun g => hB nn (Or.inl g), fun g => ⟨fun g2 => h j hj rfl g (Int32.not_lt.mpr g2), fun g2 => hB nn (Or.inr (Int32.not_le.mp g2))⟩⟩
theorem M_quota {d : Nat} {σ : Sto} {K : Int32 → Sto → Prop} {S : Nat} (hM : MB σ S) {x : Int32} (hB : (x < 0 ∨ 20 < x) → K (-2) σ) (h : ¬ x < 0 → ¬ 20 < x → K (gi σ 68 38) (si σ 68 38 x)) : CI d 150 [aR (some 68), aI x] σ K := by
  refine CI_of ?_
  show Ev (d, 0, 0) 150 0 [aR (some 68), aI x, aU] [] σ _
  simp only [z10, z00, not_true_eq_false, not_false_eq_true, false_implies, true_implies, implies_true, nI_1, Int32.add_zero, true_or, or_true, true_and, and_true, eI_eq, eL_eq, eR_eq, eV_eq, lg_cmp_ge, lg_cmp_le, lg_cmp_gt, lg_cmp_lt, lg_cmp_eq, v_150_0, v_150_1, v_150_4, v_150_5, v_150_7, v_150_10, v_150_12, v_150_13, v_150_14, v_150_17, v_150_18, v_150_19, v_150_20, v_150_23, v_150_24, hM.o]
  exact ⟨fun g => hB (Or.inl g), fun g => ⟨fun g2 => h g (Int32.not_lt.mpr g2), fun g2 => hB (Or.inr (Int32.not_le.mp g2))⟩⟩
theorem M_stands {d : Nat} {σ : Sto} {K : Int32 → Sto → Prop} {S : Nat} (hM : MB σ S) {t : Int32} (h0 : (t < 0 ∨ 20 ≤ t) → K (-1) σ) (h : ∀ j, j < 20 → t = nI j → K (if gi σ 78 j = 1 then gi σ 79 j else -1) σ) : CI (d + 1) 154 [aR (some 68), aI t] σ K := by
  refine CI_of ?_
  show Ev (d + 1, 0, 0) 154 0 [aR (some 68), aI t] [] σ _
  simp only [z10, z00, not_true_eq_false, not_false_eq_true, false_implies, true_implies, implies_true, nI_1, Int32.add_zero, true_or, or_true, true_and, and_true, eI_eq, eL_eq, eR_eq, eV_eq, lg_cmp_ge, lg_cmp_le, lg_cmp_gt, lg_cmp_lt, lg_cmp_eq, v_154_0, v_154_1, v_154_2, v_154_5, v_154_8, v_154_9, v_154_12, v_154_13, v_154_14, v_154_15, v_154_18, v_154_19, v_154_22, v_154_23, v_154_26, v_154_27, v_154_28, hM.o]
  refine M_isTrace (fun c => ?_) (fun c1 c2 => ?_)
  · simp only [z10, z00, not_true_eq_false, not_false_eq_true, false_implies, true_implies, implies_true, true_and, and_true, true_or, or_true, false_and, and_false, false_or, or_false]
    exact h0 c
  · obtain ⟨j, hj, ej⟩ := ix_of (n := 20) (by decide) c1 c2
    subst ej
    have hc : (nI j).toNatClampNeg = j := nI_clamp (by omega)
    have h := h j hj rfl
    simp only [z10, z00, not_true_eq_false, not_false_eq_true, false_implies, true_implies, implies_true, nI_1, Int32.add_zero, true_or, or_true, true_and, and_true, eI_eq, eL_eq, eR_eq, eV_eq, lg_cmp_ge, lg_cmp_le, lg_cmp_gt, lg_cmp_lt, lg_cmp_eq, v_154_0, v_154_1, v_154_2, v_154_5, v_154_8, v_154_9, v_154_12, v_154_13, v_154_14, v_154_15, v_154_18, v_154_19, v_154_22, v_154_23, v_154_26, v_154_27, v_154_28, hM.o, z10, z00, not_true_eq_false, not_false_eq_true, false_implies, true_implies, implies_true, true_and, and_true, true_or, or_true, false_and, and_false, false_or, or_false, hc, hM.r10, hM.r11, hM.x78 hj, hM.x79 hj]
    exact ⟨fun g => by simpa [g] using h, fun g => by simpa [g] using h⟩
/-- the i-th that is kept -/
def ktL (st : Nat → Int32) : List Nat → Nat → Int32
  | [], _ => -1
  | t :: l, i => if st t = 1 then (if i = 0 then nI t else ktL st l (i - 1)) else ktL st l i
/-- the row of closed ones -/
def OD (σ : Sto) : Nat → List Nat → Prop
  | _, [] => True
  | c, t :: l => t < 20 ∧ gi σ 100 c = nI t ∧ OD σ (c + 1) l
theorem M_kept_loop {b : B3} {σ : Sto} {K : Int32 → Sto → Prop} {S C : Nat} {x : Int32} (hM : MB σ S) (hC : gi σ 68 42 = nI C) (hC2 : C ≤ 20) : ∀ (l : List Nat) (c i : Nat), c + l.length = C → OD σ c l → i < 2 ^ 31 → K (ktL (gi σ 78) l i) σ → Ev b 153 10 [aR (some 68), aI x, aI (nI i), aI (nI c)] [] σ (eI K) := by
  intro l
  induction l with
  | nil =>
    intro c i hc ho hi h
    have hc' : c = C := by simpa using hc
    subst hc'
    have hle : nI c ≤ nI c := Int32.le_refl _
    rw [v_153_10]
    simp only [z10, z00, not_true_eq_false, not_false_eq_true, false_implies, true_implies, implies_true, nI_1, Int32.add_zero, true_or, or_true, true_and, and_true, eI_eq, eL_eq, eR_eq, eV_eq, lg_cmp_ge, lg_cmp_le, lg_cmp_gt, lg_cmp_lt, lg_cmp_eq, v_153_0, v_153_1, v_153_4, v_153_5, v_153_6, v_153_7, v_153_8, v_153_9, v_153_11, v_153_12, v_153_15, v_153_18, v_153_19, v_153_22, v_153_23, v_153_26, v_153_27, v_153_28, v_153_29, v_153_30, v_153_33, v_153_36, v_153_37, v_153_40, v_153_41, v_153_44, v_153_45, v_153_46, v_153_47, v_153_50, v_153_53, v_153_56, v_153_57, hM.o, hC, hle]
    exact h
  | cons t l ih =>
    intro c i hc ho hi h
    simp only [List.length_cons] at hc
    obtain ⟨ht, e1, ho⟩ := ho
    have hle : ¬ nI C ≤ nI c := nI_ge (by omega) (by omega)
    have hcc : (nI c).toNatClampNeg = c := nI_clamp (by omega)
    have hct : (nI t).toNatClampNeg = t := nI_clamp (by omega)
    rw [v_153_10]
    simp only [z10, z00, not_true_eq_false, not_false_eq_true, false_implies, true_implies, implies_true, nI_1, Int32.add_zero, true_or, or_true, true_and, and_true, eI_eq, eL_eq, eR_eq, eV_eq, lg_cmp_ge, lg_cmp_le, lg_cmp_gt, lg_cmp_lt, lg_cmp_eq, v_153_0, v_153_1, v_153_4, v_153_5, v_153_6, v_153_7, v_153_8, v_153_9, v_153_11, v_153_12, v_153_15, v_153_18, v_153_19, v_153_22, v_153_23, v_153_26, v_153_27, v_153_28, v_153_29, v_153_30, v_153_33, v_153_36, v_153_37, v_153_40, v_153_41, v_153_44, v_153_45, v_153_46, v_153_47, v_153_50, v_153_53, v_153_56, v_153_57, hM.o, hC, hle, hM.r10, hM.r41, hM.x100 (k := c) (by omega), hcc, e1, hM.x78 (k := t) ht, hct]
    simp only [ktL] at h
    refine ⟨fun g => ?_, fun g => ih (c + 1) i (by omega) ho hi (by simpa [g] using h)⟩
    cases i with
    | zero =>
      refine ⟨fun g2 => absurd (show nI 0 = 0 from rfl) g2, fun g2 => ?_⟩
      simpa [g] using h
    | succ i =>
      refine ⟨fun g2 => ?_, fun g2 => absurd g2 (nI_ne0 (by omega) hi)⟩
      rw [pk_m1]
      exact ih (c + 1) i (by omega) ho (by omega) (by simpa [g] using h)
theorem M_kept {d : Nat} {σ : Sto} {K : Int32 → Sto → Prop} {S C : Nat} {x : Int32} {l : List Nat} (hM : MB σ S) (hC : gi σ 68 42 = nI C) (hC2 : C ≤ 20) (hl : l.length = C) (hO : OD σ 0 l) (h0 : x < 0 → K (-1) σ) (h : ∀ i, i < 2 ^ 31 → x = nI i → K (ktL (gi σ 78) l i) σ) : CI d 153 [aR (some 68), aI x] σ K := by
  refine CI_of ?_
  show Ev (d, 0, 0) 153 0 [aR (some 68), aI x, aU, aU] [] σ _
  simp only [z10, z00, not_true_eq_false, not_false_eq_true, false_implies, true_implies, implies_true, nI_1, Int32.add_zero, true_or, or_true, true_and, and_true, eI_eq, eL_eq, eR_eq, eV_eq, lg_cmp_ge, lg_cmp_le, lg_cmp_gt, lg_cmp_lt, lg_cmp_eq, v_153_0, v_153_1, v_153_4, v_153_5, v_153_6, v_153_7, v_153_8, v_153_9, v_153_11, v_153_12, v_153_15, v_153_18, v_153_19, v_153_22, v_153_23, v_153_26, v_153_27, v_153_28, v_153_29, v_153_30, v_153_33, v_153_36, v_153_37, v_153_40, v_153_41, v_153_44, v_153_45, v_153_46, v_153_47, v_153_50, v_153_53, v_153_56, v_153_57]
  refine ⟨fun g => ?_, fun g => h0 (Int32.not_le.mp g)⟩
  obtain ⟨i, hi, ei⟩ := nI_of (Int32.not_lt.mpr g)
  subst ei
  exact M_kept_loop hM hC hC2 l 0 i (by omega) hO hi (h i hi rfl)
