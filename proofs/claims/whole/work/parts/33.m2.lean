/-! the reference: kids, roots, pairs -/
def ahB (a b : Rw) : Bool := decide (rB a < rB b ∨ (rB a = rB b ∧ rN a < rN b))
def kiB (σ : Sto) (S o k : Nat) : Bool := decide (rT (rwM σ k) = rT (rwM σ o) ∧ rP (rwM σ k) = rN (rwM σ o) ∧ ¬ roI (uM σ S) k = none)
def roB (σ : Sto) (S : Nat) (t : Int32) (k : Nat) : Bool := decide (rT (rwM σ k) = t ∧ roI (uM σ S) k = some k)
theorem roI_small {σ : Sto} {S k : Nat} (hM : MB σ S) (hk : k < S) : ∀ i, roI (uM σ S) k = some i → i < 2 ^ 31 := fun i h => by
  have := roI_lt hk h
  have := hM.c
  omega
theorem ofN_inj {r : Option Nat} {k : Nat} (h : ∀ i, r = some i → i < 2 ^ 31) (hk : k < 2 ^ 31) : ofN r = nI k ↔ r = some k := by
  cases r with
  | none =>
    simp only [ofN, reduceCtorEq, iff_false]
    intro e
    have h1 := nI_pos' hk
    rw [← e] at h1
    exact absurd h1 (by decide)
  | some i =>
    simp only [ofN, Option.some.injEq]
    exact nI_eq (h i rfl) hk
theorem M_isAhead {d : Nat} {σ : Sto} {a b : Nat} {K : Int32 → Sto → Prop} {S : Nat} (hM : MB σ S) (ha : a < S) (hb : b < S) (h : K (bI (ahB (rwM σ a) (rwM σ b))) σ) : CI d 116 [aR (some 68), aI (nI a), aI (nI b)] σ K := by
  have hS := hM.c
  have hc : (nI a).toNatClampNeg = a := nI_clamp (by omega)
  have hc2 : (nI b).toNatClampNeg = b := nI_clamp (by omega)
  refine CI_of ?_
  show Ev (d, 0, 0) 116 0 [aR (some 68), aI (nI a), aI (nI b)] [] σ _
  simp only [z10, z00, not_true_eq_false, not_false_eq_true, false_implies, true_implies, implies_true, nI_1, Int32.add_zero, true_or, or_true, true_and, and_true, eI_eq, eL_eq, eR_eq, eV_eq, lg_cmp_ge, lg_cmp_le, lg_cmp_gt, lg_cmp_lt, lg_cmp_eq, v_116_0, v_116_1, v_116_4, v_116_5, v_116_6, v_116_7, v_116_10, v_116_11, v_116_12, v_116_13, v_116_16, v_116_17, v_116_20, v_116_21, v_116_22, v_116_23, v_116_26, v_116_27, v_116_28, v_116_29, v_116_32, v_116_33, v_116_36, v_116_37, v_116_38, v_116_39, v_116_42, v_116_43, v_116_44, v_116_47, v_116_48, v_116_51, v_116_52, hM.o, hM.r2, hM.r8, hM.x70 (k := a) (by omega), hM.x70 (k := b) (by omega), hM.a76 (k := a) (by omega), hM.a76 (k := b) (by omega), hc, hc2]
  simp only [ahB, rB_M, rN_M, bI] at h
  refine ⟨fun g => by simpa [g] using h, fun g => ⟨fun g2 => by simpa [g, g2] using h, fun g2 => ⟨fun g3 => ?_, fun g3 => ?_⟩⟩⟩
  · simpa [g2, Int32.not_lt.mpr g3] using h
  · simpa [g2, Int32.not_le.mp g3] using h
theorem M_isKid {d : Nat} {σ : Sto} {k o : Nat} {K : Int32 → Sto → Prop} {S : Nat} (hM : MB σ S) (hk : k < S) (ho : o < S) (h : ∀ w, K (bI (kiB σ S o k)) (dp σ w)) (v : Int32) : CI (d + 3) 117 [aR (some 68), aI (nI k), aI (nI o)] (dp σ v) K := by
  have hS := hM.c
  have hM' := hM.dp v
  have hc : (nI k).toNatClampNeg = k := nI_clamp (by omega)
  have hc2 : (nI o).toNatClampNeg = o := nI_clamp (by omega)
  have e69 : gi (dp σ v) 69 = gi σ 69 := rfl
  have e70 : gi (dp σ v) 70 = gi σ 70 := rfl
  have e71 : gi (dp σ v) 71 = gi σ 71 := rfl
  refine CI_of ?_
  show Ev (d + 3, 0, 0) 117 0 [aR (some 68), aI (nI k), aI (nI o)] [] (dp σ v) _
  simp only [z10, z00, not_true_eq_false, not_false_eq_true, false_implies, true_implies, implies_true, nI_1, Int32.add_zero, true_or, or_true, true_and, and_true, eI_eq, eL_eq, eR_eq, eV_eq, lg_cmp_ge, lg_cmp_le, lg_cmp_gt, lg_cmp_lt, lg_cmp_eq, v_117_0, v_117_1, v_117_4, v_117_5, v_117_6, v_117_7, v_117_10, v_117_11, v_117_12, v_117_15, v_117_16, v_117_19, v_117_20, v_117_21, v_117_22, v_117_25, v_117_26, v_117_27, v_117_30, v_117_31, v_117_32, v_117_35, v_117_38, v_117_39, v_117_42, v_117_43, hM'.o, hM'.r1, hM'.r2, hM'.r3, hM'.x69 (k := k) (by omega), hM'.x69 (k := o) (by omega), hM'.x70 (k := o) (by omega), hM'.x71 (k := k) (by omega), hc, hc2, e69, e70, e71]
  simp only [kiB, rT_M, rN_M, rP_M, bI] at h
  refine ⟨fun g => by simpa [g] using h v, fun g => ⟨fun g2 => by simpa [g, g2] using h v, fun g2 => ?_⟩⟩
  refine M_rootOf hM hk ?_ v
  simp only [ofN_neg (roI_small hM hk)]
  exact ⟨fun g3 => by simpa [g, g2, g3] using h _, fun g3 => by simpa [g, g2, g3] using h _⟩
theorem M_kids_loop {d : Nat} {σ : Sto} {o : Nat} {K : Int32 → Sto → Prop} {S : Nat} (hM : MB σ S) (ho : o < S) : ∀ (n k c : Nat) (v : Int32), k + n = S → (∀ w, K (nI (c + cnt (kiB σ S o) k n)) (dp σ w)) → Ev (d + 4, 0, 0) 118 4 [aR (some 68), aI (nI o), aI (nI c), aI (nI k)] [] (dp σ v) (eI K) := by
  intro n
  induction n with
  | zero =>
    intro k c v hk h
    have hk' : k = S := by omega
    subst hk'
    have hle : nI k ≤ nI k := Int32.le_refl _
    rw [v_118_4]
    simp only [z10, z00, not_true_eq_false, not_false_eq_true, false_implies, true_implies, implies_true, nI_1, Int32.add_zero, true_or, or_true, true_and, and_true, eI_eq, eL_eq, eR_eq, eV_eq, lg_cmp_ge, lg_cmp_le, lg_cmp_gt, lg_cmp_lt, lg_cmp_eq, v_118_0, v_118_1, v_118_2, v_118_3, v_118_5, v_118_6, v_118_9, v_118_12, v_118_13, v_118_14, v_118_15, v_118_16, v_118_19, v_118_22, v_118_23, v_118_26, v_118_27, v_118_28, v_118_29, v_118_32, v_118_35, v_118_36, (hM.dp v).o, (hM.dp v).n, hle]
    exact h v
  | succ n ih =>
    intro k c v hk h
    have hS := hM.c
    have hle : ¬ nI S ≤ nI k := nI_ge (by omega) (by omega)
    rw [v_118_4]
    simp only [z10, z00, not_true_eq_false, not_false_eq_true, false_implies, true_implies, implies_true, nI_1, Int32.add_zero, true_or, or_true, true_and, and_true, eI_eq, eL_eq, eR_eq, eV_eq, lg_cmp_ge, lg_cmp_le, lg_cmp_gt, lg_cmp_lt, lg_cmp_eq, v_118_0, v_118_1, v_118_2, v_118_3, v_118_5, v_118_6, v_118_9, v_118_12, v_118_13, v_118_14, v_118_15, v_118_16, v_118_19, v_118_22, v_118_23, v_118_26, v_118_27, v_118_28, v_118_29, v_118_32, v_118_35, v_118_36, (hM.dp v).o, (hM.dp v).n, hle]
    refine M_isKid hM (by omega) ho (fun w => ?_) v
    simp only [cnt] at h
    cases hb : kiB σ S o k with
    | true =>
      simp only [bI, z10, z00, not_true_eq_false, not_false_eq_true, false_implies, true_implies, implies_true, true_and, and_true, true_or, or_true, false_and, and_false, false_or, or_false, if_true, hb] at h ⊢
      exact ih (k + 1) (c + 1) w (by omega) (fun w => by simpa [hb, Nat.add_assoc] using h w)
    | false =>
      simp only [bI, z10, z00, not_true_eq_false, not_false_eq_true, false_implies, true_implies, implies_true, true_and, and_true, true_or, or_true, false_and, and_false, false_or, or_false, if_true, Bool.false_eq_true, if_false, hb] at h ⊢
      exact ih (k + 1) c w (by omega) (fun w => by simpa [hb] using h w)
theorem M_kids {d : Nat} {σ : Sto} {o : Nat} {K : Int32 → Sto → Prop} {S : Nat} (hM : MB σ S) (ho : o < S) (h : ∀ w, K (nI (cnt (kiB σ S o) 0 S)) (dp σ w)) : CI (d + 4) 118 [aR (some 68), aI (nI o)] σ K := by
  refine CI_of ?_
  show Ev (d + 4, 0, 0) 118 0 [aR (some 68), aI (nI o), aU, aU] [] σ _
  simp only [z10, z00, not_true_eq_false, not_false_eq_true, false_implies, true_implies, implies_true, nI_1, Int32.add_zero, true_or, or_true, true_and, and_true, eI_eq, eL_eq, eR_eq, eV_eq, lg_cmp_ge, lg_cmp_le, lg_cmp_gt, lg_cmp_lt, lg_cmp_eq, v_118_0, v_118_1, v_118_2, v_118_3, v_118_5, v_118_6, v_118_9, v_118_12, v_118_13, v_118_14, v_118_15, v_118_16, v_118_19, v_118_22, v_118_23, v_118_26, v_118_27, v_118_28, v_118_29, v_118_32, v_118_35, v_118_36]
  have := M_kids_loop (d := d) (K := K) hM ho S 0 0 (gi σ 68 18) (by omega) (by simpa using h)
  rw [dp_self] at this
  simpa only [nI_0] using this
theorem M_kidAt_in {d : Nat} {σ : Sto} {o k : Nat} {i : Int32} {K : Int32 → Sto → Prop} {S : Nat} (hM : MB σ S) (ho : o < S) (hk : k < S) : ∀ (n j c : Nat) (v : Int32), j + n = S → (∀ w, Ev (d + 4, 0, 0) 119 73 [aR (some 68), aI (nI o), aI i, aI (nI k), aI (nI (c + cnt (fun j => kiB σ S o j && ahB (rwM σ j) (rwM σ k)) j n)), aI (nI S)] [] (dp σ w) (eI K)) → Ev (d + 4, 0, 0) 119 28 [aR (some 68), aI (nI o), aI i, aI (nI k), aI (nI c), aI (nI j)] [] (dp σ v) (eI K) := by
  intro n
  induction n with
  | zero =>
    intro j c v hj h
    have hj' : j = S := by omega
    subst hj'
    have hle : nI j ≤ nI j := Int32.le_refl _
    rw [v_119_28]
    simp only [z10, z00, not_true_eq_false, not_false_eq_true, false_implies, true_implies, implies_true, nI_1, Int32.add_zero, true_or, or_true, true_and, and_true, eI_eq, eL_eq, eR_eq, eV_eq, lg_cmp_ge, lg_cmp_le, lg_cmp_gt, lg_cmp_lt, lg_cmp_eq, v_119_0, v_119_1, v_119_3, v_119_4, v_119_7, v_119_10, v_119_11, v_119_12, v_119_13, v_119_16, v_119_19, v_119_22, v_119_23, v_119_25, v_119_26, v_119_30, v_119_31, v_119_34, v_119_37, v_119_39, v_119_40, v_119_42, v_119_43, v_119_46, v_119_49, v_119_50, v_119_52, v_119_53, v_119_56, v_119_59, v_119_60, v_119_63, v_119_64, v_119_65, v_119_67, v_119_70, v_119_75, v_119_76, v_119_79, v_119_80, v_119_81, v_119_84, v_119_87, v_119_88, (hM.dp v).o, (hM.dp v).n, hle]
    exact h v
  | succ n ih =>
    intro j c v hj h
    have hS := hM.c
    have hle : ¬ nI S ≤ nI j := nI_ge (by omega) (by omega)
    rw [v_119_28]
    simp only [z10, z00, not_true_eq_false, not_false_eq_true, false_implies, true_implies, implies_true, nI_1, Int32.add_zero, true_or, or_true, true_and, and_true, eI_eq, eL_eq, eR_eq, eV_eq, lg_cmp_ge, lg_cmp_le, lg_cmp_gt, lg_cmp_lt, lg_cmp_eq, v_119_0, v_119_1, v_119_3, v_119_4, v_119_7, v_119_10, v_119_11, v_119_12, v_119_13, v_119_16, v_119_19, v_119_22, v_119_23, v_119_25, v_119_26, v_119_30, v_119_31, v_119_34, v_119_37, v_119_39, v_119_40, v_119_42, v_119_43, v_119_46, v_119_49, v_119_50, v_119_52, v_119_53, v_119_56, v_119_59, v_119_60, v_119_63, v_119_64, v_119_65, v_119_67, v_119_70, v_119_75, v_119_76, v_119_79, v_119_80, v_119_81, v_119_84, v_119_87, v_119_88, (hM.dp v).o, (hM.dp v).n, hle]
    refine M_isKid hM (by omega) ho (fun w => ?_) v
    simp only [cnt] at h
    cases hb : kiB σ S o j with
    | true =>
      simp only [bI, z10, z00, not_true_eq_false, not_false_eq_true, false_implies, true_implies, implies_true, true_and, and_true, true_or, or_true, false_and, and_false, false_or, or_false, if_true, hb, Bool.true_and, (hM.dp w).o] at h ⊢
      refine M_isAhead (hM.dp w) (by omega) hk ?_
      rw [rwM_dp]
      cases ha : ahB (rwM σ j) (rwM σ k) with
      | true =>
        simp only [bI, z10, z00, not_true_eq_false, not_false_eq_true, false_implies, true_implies, implies_true, true_and, and_true, true_or, or_true, false_and, and_false, false_or, or_false, if_true, ha] at h ⊢
        exact ih (j + 1) (c + 1) w (by omega) (fun w => by simpa [Nat.add_assoc] using h w)
      | false =>
        simp only [bI, z10, z00, not_true_eq_false, not_false_eq_true, false_implies, true_implies, implies_true, true_and, and_true, true_or, or_true, false_and, and_false, false_or, or_false, if_true, Bool.false_eq_true, if_false, ha] at h ⊢
        exact ih (j + 1) c w (by omega) (fun w => by simpa using h w)
    | false =>
      simp only [bI, z10, z00, not_true_eq_false, not_false_eq_true, false_implies, true_implies, implies_true, true_and, and_true, true_or, or_true, false_and, and_false, false_or, or_false, if_true, Bool.false_eq_true, if_false, hb, Bool.false_and] at h ⊢
      exact ih (j + 1) c w (by omega) (fun w => by simpa using h w)
def kaB (σ : Sto) (S o : Nat) (i : Int32) (k : Nat) : Bool := kiB σ S o k && decide (nI (cnt (fun j => kiB σ S o j && ahB (rwM σ j) (rwM σ k)) 0 S) = i)
theorem M_kidAt_loop {d : Nat} {σ : Sto} {o : Nat} {i : Int32} {K : Int32 → Sto → Prop} {S : Nat} (hM : MB σ S) (ho : o < S) : ∀ (n k : Nat) (v : Int32) (u1 u2 : AV), k + n = S → (∀ w, K (ofN (fnd (kaB σ S o i) k n)) (dp σ w)) → Ev (d + 4, 0, 0) 119 2 [aR (some 68), aI (nI o), aI i, aI (nI k), u1, u2] [] (dp σ v) (eI K) := by
  intro n
  induction n with
  | zero =>
    intro k v u1 u2 hk h
    have hk' : k = S := by omega
    subst hk'
    have hle : nI k ≤ nI k := Int32.le_refl _
    rw [v_119_2]
    simp only [z10, z00, not_true_eq_false, not_false_eq_true, false_implies, true_implies, implies_true, nI_1, Int32.add_zero, true_or, or_true, true_and, and_true, eI_eq, eL_eq, eR_eq, eV_eq, lg_cmp_ge, lg_cmp_le, lg_cmp_gt, lg_cmp_lt, lg_cmp_eq, v_119_0, v_119_1, v_119_3, v_119_4, v_119_7, v_119_10, v_119_11, v_119_12, v_119_13, v_119_16, v_119_19, v_119_22, v_119_23, v_119_25, v_119_26, v_119_30, v_119_31, v_119_34, v_119_37, v_119_39, v_119_40, v_119_42, v_119_43, v_119_46, v_119_49, v_119_50, v_119_52, v_119_53, v_119_56, v_119_59, v_119_60, v_119_63, v_119_64, v_119_65, v_119_67, v_119_70, v_119_73, v_119_75, v_119_76, v_119_79, v_119_80, v_119_81, v_119_84, v_119_87, v_119_88, (hM.dp v).o, (hM.dp v).n, hle]
    exact h v
  | succ n ih =>
    intro k v u1 u2 hk h
    have hS := hM.c
    have hle : ¬ nI S ≤ nI k := nI_ge (by omega) (by omega)
    rw [v_119_2]
    simp only [z10, z00, not_true_eq_false, not_false_eq_true, false_implies, true_implies, implies_true, nI_1, Int32.add_zero, true_or, or_true, true_and, and_true, eI_eq, eL_eq, eR_eq, eV_eq, lg_cmp_ge, lg_cmp_le, lg_cmp_gt, lg_cmp_lt, lg_cmp_eq, v_119_0, v_119_1, v_119_3, v_119_4, v_119_7, v_119_10, v_119_11, v_119_12, v_119_13, v_119_16, v_119_19, v_119_22, v_119_23, v_119_25, v_119_26, v_119_30, v_119_31, v_119_34, v_119_37, v_119_39, v_119_40, v_119_42, v_119_43, v_119_46, v_119_49, v_119_50, v_119_52, v_119_53, v_119_56, v_119_59, v_119_60, v_119_63, v_119_64, v_119_65, v_119_67, v_119_70, v_119_73, v_119_75, v_119_76, v_119_79, v_119_80, v_119_81, v_119_84, v_119_87, v_119_88, (hM.dp v).o, (hM.dp v).n, hle]
    refine M_isKid hM (by omega) ho (fun w => ?_) v
    cases hb : kiB σ S o k with
    | true =>
      simp only [bI, z10, z00, not_true_eq_false, not_false_eq_true, false_implies, true_implies, implies_true, true_and, and_true, true_or, or_true, false_and, and_false, false_or, or_false, if_true]
      have := M_kidAt_in (d := d) (i := i) (K := K) hM ho (show k < S by omega) S 0 0 w (by omega) (fun w => by
        simp only [z10, z00, not_true_eq_false, not_false_eq_true, false_implies, true_implies, implies_true, nI_1, Int32.add_zero, true_or, or_true, true_and, and_true, eI_eq, eL_eq, eR_eq, eV_eq, lg_cmp_ge, lg_cmp_le, lg_cmp_gt, lg_cmp_lt, lg_cmp_eq, v_119_0, v_119_1, v_119_3, v_119_4, v_119_7, v_119_10, v_119_11, v_119_12, v_119_13, v_119_16, v_119_19, v_119_22, v_119_23, v_119_25, v_119_26, v_119_30, v_119_31, v_119_34, v_119_37, v_119_39, v_119_40, v_119_42, v_119_43, v_119_46, v_119_49, v_119_50, v_119_52, v_119_53, v_119_56, v_119_59, v_119_60, v_119_63, v_119_64, v_119_65, v_119_67, v_119_70, v_119_73, v_119_75, v_119_76, v_119_79, v_119_80, v_119_81, v_119_84, v_119_87, v_119_88]
        refine ⟨fun g => ih (k + 1) w _ _ (by omega) (fun w => ?_), fun g => ?_⟩
        · have h' := h w
          simp only [Nat.zero_add] at g
          simpa [fnd, kaB, hb, g] using h'
        · have h' := h w
          simp only [Nat.zero_add] at g
          simpa [fnd, kaB, hb, g, ofN] using h')
      simpa only [nI_0] using this
    | false =>
      simp only [bI, z10, z00, not_true_eq_false, not_false_eq_true, false_implies, true_implies, implies_true, true_and, and_true, true_or, or_true, false_and, and_false, false_or, or_false, if_true, Bool.false_eq_true, if_false]
      exact ih (k + 1) w u1 u2 (by omega) (fun w => by simpa [fnd, kaB, hb] using h w)
theorem M_kidAt {d : Nat} {σ : Sto} {o : Nat} {i : Int32} {K : Int32 → Sto → Prop} {S : Nat} (hM : MB σ S) (ho : o < S) (h : ∀ w, K (ofN (fnd (kaB σ S o i) 0 S)) (dp σ w)) : CI (d + 4) 119 [aR (some 68), aI (nI o), aI i] σ K := by
  refine CI_of ?_
  show Ev (d + 4, 0, 0) 119 0 [aR (some 68), aI (nI o), aI i, aU, aU, aU] [] σ _
  simp only [z10, z00, not_true_eq_false, not_false_eq_true, false_implies, true_implies, implies_true, nI_1, Int32.add_zero, true_or, or_true, true_and, and_true, eI_eq, eL_eq, eR_eq, eV_eq, lg_cmp_ge, lg_cmp_le, lg_cmp_gt, lg_cmp_lt, lg_cmp_eq, v_119_0, v_119_1, v_119_3, v_119_4, v_119_7, v_119_10, v_119_11, v_119_12, v_119_13, v_119_16, v_119_19, v_119_22, v_119_23, v_119_25, v_119_26, v_119_30, v_119_31, v_119_34, v_119_37, v_119_39, v_119_40, v_119_42, v_119_43, v_119_46, v_119_49, v_119_50, v_119_52, v_119_53, v_119_56, v_119_59, v_119_60, v_119_63, v_119_64, v_119_65, v_119_67, v_119_70, v_119_73, v_119_75, v_119_76, v_119_79, v_119_80, v_119_81, v_119_84, v_119_87, v_119_88]
  have := M_kidAt_loop (d := d) (K := K) (i := i) hM ho S 0 (gi σ 68 18) aU aU (by omega) h
  rw [dp_self] at this
  simpa only [nI_0] using this
