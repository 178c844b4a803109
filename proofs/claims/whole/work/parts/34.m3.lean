/-! the reference: roots in order, holes, pairs -/
theorem M_isRoot {d : Nat} {σ : Sto} {k : Nat} {t : Int32} {K : Int32 → Sto → Prop} {S : Nat} (hM : MB σ S) (hk : k < S) (h : ∀ w, K (bI (roB σ S t k)) (dp σ w)) (v : Int32) : CI (d + 3) 120 [aR (some 68), aI (nI k), aI t] (dp σ v) K := by
  have hS := hM.c
  have hM' := hM.dp v
  have hc : (nI k).toNatClampNeg = k := nI_clamp (by omega)
  have e69 : gi (dp σ v) 69 = gi σ 69 := rfl
  refine CI_of ?_
  show Ev (d + 3, 0, 0) 120 0 [aR (some 68), aI (nI k), aI t] [] (dp σ v) _
  simp only [z10, z00, not_true_eq_false, not_false_eq_true, false_implies, true_implies, implies_true, nI_1, Int32.add_zero, true_or, or_true, true_and, and_true, eI_eq, eL_eq, eR_eq, eV_eq, lg_cmp_ge, lg_cmp_le, lg_cmp_gt, lg_cmp_lt, lg_cmp_eq, v_120_0, v_120_1, v_120_4, v_120_5, v_120_6, v_120_7, v_120_10, v_120_11, v_120_12, v_120_15, v_120_16, v_120_19, v_120_20, v_120_23, v_120_24, hM'.o, hM'.r1, hM'.x69 (k := k) (by omega), hc, e69]
  simp only [roB, rT_M, bI] at h
  refine ⟨fun g => by simpa [g] using h v, fun g => ?_⟩
  refine M_rootOf hM hk ?_ v
  simp only [ofN_inj (roI_small hM hk) (show k < 2 ^ 31 by omega)]
  exact ⟨fun g3 => by simpa [g, g3] using h _, fun g3 => by simpa [g, g3] using h _⟩
theorem M_rootAt_in {d : Nat} {σ : Sto} {o : Int32} {k : Nat} {i : Int32} {K : Int32 → Sto → Prop} {S : Nat} (hM : MB σ S) (hk : k < S) : ∀ (n j c : Nat) (v : Int32), j + n = S → (∀ w, Ev (d + 4, 0, 0) 121 73 [aR (some 68), aI o, aI i, aI (nI k), aI (nI (c + cnt (fun j => roB σ S o j && ahB (rwM σ j) (rwM σ k)) j n)), aI (nI S)] [] (dp σ w) (eI K)) → Ev (d + 4, 0, 0) 121 28 [aR (some 68), aI o, aI i, aI (nI k), aI (nI c), aI (nI j)] [] (dp σ v) (eI K) := by
  intro n
  induction n with
  | zero =>
    intro j c v hj h
    have hj' : j = S := by omega
    subst hj'
    have hle : nI j ≤ nI j := Int32.le_refl _
    rw [v_121_28]
    simp only [z10, z00, not_true_eq_false, not_false_eq_true, false_implies, true_implies, implies_true, nI_1, Int32.add_zero, true_or, or_true, true_and, and_true, eI_eq, eL_eq, eR_eq, eV_eq, lg_cmp_ge, lg_cmp_le, lg_cmp_gt, lg_cmp_lt, lg_cmp_eq, v_121_0, v_121_1, v_121_3, v_121_4, v_121_7, v_121_10, v_121_11, v_121_12, v_121_13, v_121_16, v_121_19, v_121_22, v_121_23, v_121_25, v_121_26, v_121_30, v_121_31, v_121_34, v_121_37, v_121_39, v_121_40, v_121_42, v_121_43, v_121_46, v_121_49, v_121_50, v_121_52, v_121_53, v_121_56, v_121_59, v_121_60, v_121_63, v_121_64, v_121_65, v_121_67, v_121_70, v_121_75, v_121_76, v_121_79, v_121_80, v_121_81, v_121_84, v_121_87, v_121_88, (hM.dp v).o, (hM.dp v).n, hle]
    exact h v
  | succ n ih =>
    intro j c v hj h
    have hS := hM.c
    have hle : ¬ nI S ≤ nI j := nI_ge (by omega) (by omega)
    rw [v_121_28]
    simp only [z10, z00, not_true_eq_false, not_false_eq_true, false_implies, true_implies, implies_true, nI_1, Int32.add_zero, true_or, or_true, true_and, and_true, eI_eq, eL_eq, eR_eq, eV_eq, lg_cmp_ge, lg_cmp_le, lg_cmp_gt, lg_cmp_lt, lg_cmp_eq, v_121_0, v_121_1, v_121_3, v_121_4, v_121_7, v_121_10, v_121_11, v_121_12, v_121_13, v_121_16, v_121_19, v_121_22, v_121_23, v_121_25, v_121_26, v_121_30, v_121_31, v_121_34, v_121_37, v_121_39, v_121_40, v_121_42, v_121_43, v_121_46, v_121_49, v_121_50, v_121_52, v_121_53, v_121_56, v_121_59, v_121_60, v_121_63, v_121_64, v_121_65, v_121_67, v_121_70, v_121_75, v_121_76, v_121_79, v_121_80, v_121_81, v_121_84, v_121_87, v_121_88, (hM.dp v).o, (hM.dp v).n, hle]
    refine M_isRoot hM (by omega) (fun w => ?_) v
    simp only [cnt] at h
    cases hb : roB σ S o j with
    | true =>
      simp only [bI, z10, z00, not_true_eq_false, not_false_eq_true, false_implies, true_implies, implies_true, true_and, and_true, true_or, or_true, false_and, and_false, false_or, or_false, if_true, hb, Bool.true_and, (hM.dp w).o] at h ⊢
      refine M_isAhead (hM.dp w) (by omega) hk ?_
      rw [rwM_dp]
      cases ha : ahB (rwM σ j) (rwM σ k) with
      | true =>
        simp only [bI, z10, z00, not_true_eq_false, not_false_eq_true, false_implies, true_implies, implies_true, true_and, and_true, true_or, or_true, false_and, and_false, false_or, or_false, if_true, ha] at h ⊢
        exact ih (j + 1) (c + 1) w (by omega) (fun w => by simpa [Nat.add_assoc] using h w)
      | false =>
        simp only [bI, z10, z00, not_true_eq_false, not_false_eq_true, false_implies, true_implies, implies_true, true_and, and_true, true_or, or_true, false_and, and_false, false_or, or_false, if_true, Bool.false_eq_true, if_false, ha] at h ⊢
        exact ih (j + 1) c w (by omega) (fun w => by simpa using h w)
    | false =>
      simp only [bI, z10, z00, not_true_eq_false, not_false_eq_true, false_implies, true_implies, implies_true, true_and, and_true, true_or, or_true, false_and, and_false, false_or, or_false, if_true, Bool.false_eq_true, if_false, hb, Bool.false_and] at h ⊢
      exact ih (j + 1) c w (by omega) (fun w => by simpa using h w)
def raB (σ : Sto) (S : Nat) (o i : Int32) (k : Nat) : Bool := roB σ S o k && decide (nI (cnt (fun j => roB σ S o j && ahB (rwM σ j) (rwM σ k)) 0 S) = i)
theorem M_rootAt_loop {d : Nat} {σ : Sto} {o : Int32} {i : Int32} {K : Int32 → Sto → Prop} {S : Nat} (hM : MB σ S) : ∀ (n k : Nat) (v : Int32) (u1 u2 : AV), k + n = S → (∀ w, K (ofN (fnd (raB σ S o i) k n)) (dp σ w)) → Ev (d + 4, 0, 0) 121 2 [aR (some 68), aI o, aI i, aI (nI k), u1, u2] [] (dp σ v) (eI K) := by
  intro n
  induction n with
  | zero =>
    intro k v u1 u2 hk h
    have hk' : k = S := by omega
    subst hk'
    have hle : nI k ≤ nI k := Int32.le_refl _
    rw [v_121_2]
    simp only [z10, z00, not_true_eq_false, not_false_eq_true, false_implies, true_implies, implies_true, nI_1, Int32.add_zero, true_or, or_true, true_and, and_true, eI_eq, eL_eq, eR_eq, eV_eq, lg_cmp_ge, lg_cmp_le, lg_cmp_gt, lg_cmp_lt, lg_cmp_eq, v_121_0, v_121_1, v_121_3, v_121_4, v_121_7, v_121_10, v_121_11, v_121_12, v_121_13, v_121_16, v_121_19, v_121_22, v_121_23, v_121_25, v_121_26, v_121_30, v_121_31, v_121_34, v_121_37, v_121_39, v_121_40, v_121_42, v_121_43, v_121_46, v_121_49, v_121_50, v_121_52, v_121_53, v_121_56, v_121_59, v_121_60, v_121_63, v_121_64, v_121_65, v_121_67, v_121_70, v_121_73, v_121_75, v_121_76, v_121_79, v_121_80, v_121_81, v_121_84, v_121_87, v_121_88, (hM.dp v).o, (hM.dp v).n, hle]
    exact h v
  | succ n ih =>
    intro k v u1 u2 hk h
    have hS := hM.c
    have hle : ¬ nI S ≤ nI k := nI_ge (by omega) (by omega)
    rw [v_121_2]
    simp only [z10, z00, not_true_eq_false, not_false_eq_true, false_implies, true_implies, implies_true, nI_1, Int32.add_zero, true_or, or_true, true_and, and_true, eI_eq, eL_eq, eR_eq, eV_eq, lg_cmp_ge, lg_cmp_le, lg_cmp_gt, lg_cmp_lt, lg_cmp_eq, v_121_0, v_121_1, v_121_3, v_121_4, v_121_7, v_121_10, v_121_11, v_121_12, v_121_13, v_121_16, v_121_19, v_121_22, v_121_23, v_121_25, v_121_26, v_121_30, v_121_31, v_121_34, v_121_37, v_121_39, v_121_40, v_121_42, v_121_43, v_121_46, v_121_49, v_121_50, v_121_52, v_121_53, v_121_56, v_121_59, v_121_60, v_121_63, v_121_64, v_121_65, v_121_67, v_121_70, v_121_73, v_121_75, v_121_76, v_121_79, v_121_80, v_121_81, v_121_84, v_121_87, v_121_88, (hM.dp v).o, (hM.dp v).n, hle]
    refine M_isRoot hM (by omega) (fun w => ?_) v
    cases hb : roB σ S o k with
    | true =>
      simp only [bI, z10, z00, not_true_eq_false, not_false_eq_true, false_implies, true_implies, implies_true, true_and, and_true, true_or, or_true, false_and, and_false, false_or, or_false, if_true]
      have := M_rootAt_in (d := d) (i := i) (K := K) hM (show k < S by omega) S 0 0 w (by omega) (fun w => by
        simp only [z10, z00, not_true_eq_false, not_false_eq_true, false_implies, true_implies, implies_true, nI_1, Int32.add_zero, true_or, or_true, true_and, and_true, eI_eq, eL_eq, eR_eq, eV_eq, lg_cmp_ge, lg_cmp_le, lg_cmp_gt, lg_cmp_lt, lg_cmp_eq, v_121_0, v_121_1, v_121_3, v_121_4, v_121_7, v_121_10, v_121_11, v_121_12, v_121_13, v_121_16, v_121_19, v_121_22, v_121_23, v_121_25, v_121_26, v_121_30, v_121_31, v_121_34, v_121_37, v_121_39, v_121_40, v_121_42, v_121_43, v_121_46, v_121_49, v_121_50, v_121_52, v_121_53, v_121_56, v_121_59, v_121_60, v_121_63, v_121_64, v_121_65, v_121_67, v_121_70, v_121_73, v_121_75, v_121_76, v_121_79, v_121_80, v_121_81, v_121_84, v_121_87, v_121_88]
        refine ⟨fun g => ih (k + 1) w _ _ (by omega) (fun w => ?_), fun g => ?_⟩
        · have h' := h w
          simp only [Nat.zero_add] at g
          simpa [fnd, raB, hb, g] using h'
        · have h' := h w
          simp only [Nat.zero_add] at g
          simpa [fnd, raB, hb, g, ofN] using h')
      simpa only [nI_0] using this
    | false =>
      simp only [bI, z10, z00, not_true_eq_false, not_false_eq_true, false_implies, true_implies, implies_true, true_and, and_true, true_or, or_true, false_and, and_false, false_or, or_false, if_true, Bool.false_eq_true, if_false]
      exact ih (k + 1) w u1 u2 (by omega) (fun w => by simpa [fnd, raB, hb] using h w)
theorem M_rootAt {d : Nat} {σ : Sto} {o : Int32} {i : Int32} {K : Int32 → Sto → Prop} {S : Nat} (hM : MB σ S) (h : ∀ w, K (ofN (fnd (raB σ S o i) 0 S)) (dp σ w)) : CI (d + 4) 121 [aR (some 68), aI o, aI i] σ K := by
  refine CI_of ?_
  show Ev (d + 4, 0, 0) 121 0 [aR (some 68), aI o, aI i, aU, aU, aU] [] σ _
  simp only [z10, z00, not_true_eq_false, not_false_eq_true, false_implies, true_implies, implies_true, nI_1, Int32.add_zero, true_or, or_true, true_and, and_true, eI_eq, eL_eq, eR_eq, eV_eq, lg_cmp_ge, lg_cmp_le, lg_cmp_gt, lg_cmp_lt, lg_cmp_eq, v_121_0, v_121_1, v_121_3, v_121_4, v_121_7, v_121_10, v_121_11, v_121_12, v_121_13, v_121_16, v_121_19, v_121_22, v_121_23, v_121_25, v_121_26, v_121_30, v_121_31, v_121_34, v_121_37, v_121_39, v_121_40, v_121_42, v_121_43, v_121_46, v_121_49, v_121_50, v_121_52, v_121_53, v_121_56, v_121_59, v_121_60, v_121_63, v_121_64, v_121_65, v_121_67, v_121_70, v_121_73, v_121_75, v_121_76, v_121_79, v_121_80, v_121_81, v_121_84, v_121_87, v_121_88]
  have := M_rootAt_loop (d := d) (K := K) (i := i) hM S 0 (gi σ 68 18) aU aU (by omega) h
  rw [dp_self] at this
  simpa only [nI_0] using this
def fhB (σ : Sto) (k o : Nat) : Bool := decide (rT (rwM σ o) = rT (rwM σ k) ∧ rP (rwM σ o) = rP (rwM σ k))
theorem M_isFirstHole_loop {b : B3} {σ : Sto} {k : Nat} {K : Int32 → Sto → Prop} {S : Nat} (hM : MB σ S) (hk : k < S) : ∀ (n j : Nat), j + n = k → K (bI (fnd (fhB σ k) j n).isNone) σ → Ev b 126 2 [aR (some 68), aI (nI k), aI (nI j)] [] σ (eI K) := by
  intro n
  have hS := hM.c
  have hc : (nI k).toNatClampNeg = k := nI_clamp (by omega)
  induction n with
  | zero =>
    intro j hj h
    have hj' : j = k := by omega
    subst hj'
    have hle : nI j ≤ nI j := Int32.le_refl _
    rw [v_126_2]
    simp only [z10, z00, not_true_eq_false, not_false_eq_true, false_implies, true_implies, implies_true, nI_1, Int32.add_zero, true_or, or_true, true_and, and_true, eI_eq, eL_eq, eR_eq, eV_eq, lg_cmp_ge, lg_cmp_le, lg_cmp_gt, lg_cmp_lt, lg_cmp_eq, v_126_0, v_126_1, v_126_3, v_126_4, v_126_7, v_126_8, v_126_11, v_126_12, v_126_13, v_126_14, v_126_17, v_126_18, v_126_19, v_126_22, v_126_23, v_126_26, v_126_27, v_126_28, v_126_29, v_126_32, v_126_33, v_126_34, v_126_37, v_126_38, v_126_39, v_126_42, v_126_45, v_126_46, hle]
    simpa [fnd, bI] using h
  | succ n ih =>
    intro j hj h
    have hle : ¬ nI k ≤ nI j := nI_ge (by omega) (by omega)
    have hc2 : (nI j).toNatClampNeg = j := nI_clamp (by omega)
    rw [v_126_2]
    simp only [z10, z00, not_true_eq_false, not_false_eq_true, false_implies, true_implies, implies_true, nI_1, Int32.add_zero, true_or, or_true, true_and, and_true, eI_eq, eL_eq, eR_eq, eV_eq, lg_cmp_ge, lg_cmp_le, lg_cmp_gt, lg_cmp_lt, lg_cmp_eq, v_126_0, v_126_1, v_126_3, v_126_4, v_126_7, v_126_8, v_126_11, v_126_12, v_126_13, v_126_14, v_126_17, v_126_18, v_126_19, v_126_22, v_126_23, v_126_26, v_126_27, v_126_28, v_126_29, v_126_32, v_126_33, v_126_34, v_126_37, v_126_38, v_126_39, v_126_42, v_126_45, v_126_46, hle, hM.o, hM.r1, hM.r3, hM.x69 (k := k) (by omega), hM.x69 (k := j) (by omega), hM.x71 (k := k) (by omega), hM.x71 (k := j) (by omega), hc, hc2]
    simp only [fnd, fhB, rT_M, rP_M] at h
    refine ⟨fun g => ih (j + 1) (by omega) (by simpa [g, fhB, rT_M, rP_M] using h), fun g => ⟨fun g2 => ih (j + 1) (by omega) (by simpa [g, g2, fhB, rT_M, rP_M] using h), fun g2 => by simpa [g, g2, bI] using h⟩⟩
theorem M_isFirstHole {d : Nat} {σ : Sto} {k : Nat} {K : Int32 → Sto → Prop} {S : Nat} (hM : MB σ S) (hk : k < S) (h : K (bI (fnd (fhB σ k) 0 k).isNone) σ) : CI d 126 [aR (some 68), aI (nI k)] σ K := by
  refine CI_of ?_
  show Ev (d, 0, 0) 126 0 [aR (some 68), aI (nI k), aU] [] σ _
  simp only [z10, z00, not_true_eq_false, not_false_eq_true, false_implies, true_implies, implies_true, nI_1, Int32.add_zero, true_or, or_true, true_and, and_true, eI_eq, eL_eq, eR_eq, eV_eq, lg_cmp_ge, lg_cmp_le, lg_cmp_gt, lg_cmp_lt, lg_cmp_eq, v_126_0, v_126_1, v_126_3, v_126_4, v_126_7, v_126_8, v_126_11, v_126_12, v_126_13, v_126_14, v_126_17, v_126_18, v_126_19, v_126_22, v_126_23, v_126_26, v_126_27, v_126_28, v_126_29, v_126_32, v_126_33, v_126_34, v_126_37, v_126_38, v_126_39, v_126_42, v_126_45, v_126_46]
  simpa only [nI_0] using M_isFirstHole_loop hM hk k 0 (by omega) h
/-- with its parent a pair -/
def prB (p r : Rw) : Bool := decide (¬ rV p = rV r ∧ ((rK r = 2 ∧ rK p = 1) ∨ (rK r = 4 ∧ rK p = 3)))
def paB (σ : Sto) (S k : Nat) : Bool := match uM σ S k with
  | none => false
  | some p => prB (rwM σ p) (rwM σ k)
theorem M_isPair {d : Nat} {σ : Sto} {k : Nat} {K : Int32 → Sto → Prop} {S : Nat} (hM : MB σ S) (hk : k < S) (h : K (bI (paB σ S k)) σ) : CI (d + 2) 127 [aR (some 68), aI (nI k)] σ K := by
  have hS := hM.c
  have hc : (nI k).toNatClampNeg = k := nI_clamp (by omega)
  refine CI_of ?_
  show Ev (d + 2, 0, 0) 127 0 [aR (some 68), aI (nI k), aU] [] σ _
  simp only [z10, z00, not_true_eq_false, not_false_eq_true, false_implies, true_implies, implies_true, nI_1, Int32.add_zero, true_or, or_true, true_and, and_true, eI_eq, eL_eq, eR_eq, eV_eq, lg_cmp_ge, lg_cmp_le, lg_cmp_gt, lg_cmp_lt, lg_cmp_eq, v_127_0, v_127_1, v_127_2, v_127_5, v_127_6, v_127_7, v_127_10, v_127_11, v_127_14, v_127_15, v_127_16, v_127_17, v_127_20, v_127_21, v_127_22, v_127_25, v_127_26, v_127_27, v_127_28, v_127_31, v_127_32, v_127_33, v_127_34, v_127_37, v_127_38, v_127_41, v_127_42, v_127_43, v_127_44, v_127_47, v_127_48, v_127_51, v_127_52, v_127_53, v_127_54, v_127_57, v_127_58, v_127_61, v_127_62, v_127_63, v_127_64, v_127_67, v_127_68, v_127_71, v_127_72, hM.o]
  refine M_above hM hk ?_
  cases hu : uM σ S k with
  | none =>
    have hu' : upI (rws σ 0 S) (rwM σ k) = none := hu
    have c1 : (-1 : Int32) < 0 := by decide
    simp only [hu', ofN, c1, z10, z00, not_true_eq_false, not_false_eq_true, false_implies, true_implies, implies_true, true_and, and_true, true_or, or_true, false_and, and_false, false_or, or_false]
    simpa [paB, hu, bI] using h
  | some p =>
    have hu' : upI (rws σ 0 S) (rwM σ k) = some p := hu
    have hp := uM_lt hu
    have c1 : ¬ nI p < 0 := nI_pos (by omega)
    have hc2 : (nI p).toNatClampNeg = p := nI_clamp (by omega)
    simp only [z10, z00, not_true_eq_false, not_false_eq_true, false_implies, true_implies, implies_true, nI_1, Int32.add_zero, true_or, or_true, true_and, and_true, eI_eq, eL_eq, eR_eq, eV_eq, lg_cmp_ge, lg_cmp_le, lg_cmp_gt, lg_cmp_lt, lg_cmp_eq, v_127_0, v_127_1, v_127_2, v_127_5, v_127_6, v_127_7, v_127_10, v_127_11, v_127_14, v_127_15, v_127_16, v_127_17, v_127_20, v_127_21, v_127_22, v_127_25, v_127_26, v_127_27, v_127_28, v_127_31, v_127_32, v_127_33, v_127_34, v_127_37, v_127_38, v_127_41, v_127_42, v_127_43, v_127_44, v_127_47, v_127_48, v_127_51, v_127_52, v_127_53, v_127_54, v_127_57, v_127_58, v_127_61, v_127_62, v_127_63, v_127_64, v_127_67, v_127_68, v_127_71, v_127_72, hu', ofN, c1, hM.o, hM.r4, hM.r6, hM.x72 (k := k) (by omega), hM.x72 (k := p) (by omega), hM.x74 (k := k) (by omega), hM.x74 (k := p) (by omega), hc, hc2, z10, z00, not_true_eq_false, not_false_eq_true, false_implies, true_implies, implies_true, true_and, and_true, true_or, or_true, false_and, and_false, false_or, or_false]
    simp only [paB, hu, prB, rV_M, rK_M, bI] at h
    refine ⟨fun g => ⟨fun g2 => ⟨fun g3 => by simpa [g, g2, g3] using h, fun g3 => ⟨fun g4 => by simpa [g, g2, g3, g4] using h, fun g4 => by simpa [g, g2, g3, g4] using h⟩⟩, fun g2 => ⟨fun g3 => by simpa [g, g2, g3] using h, fun g3 => ⟨fun g4 => by simpa [g, g2, g3, g4] using h, fun g4 => absurd (g2.symm.trans g4) (by decide)⟩⟩⟩, fun g => by simpa [g] using h⟩
