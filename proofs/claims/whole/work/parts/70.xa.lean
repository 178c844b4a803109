/-! the class: all that pairs tell -/
def fnR (o : Nat → Option Int64) : Nat → Nat → Option (List Nat)
  | _, 0 => none
  | m, n + 1 => (flR o m [] 0).or (fnR o (m + 1) n)
theorem X_findRing_loop {d : Nat} {σ : Sto} {K : Int32 → Sto → Prop} {o : Nat → Option Int64} (hX : XB σ) (hR : RpX σ 8 o) : ∀ (n m : Nat) (σ1 : Sto), m + n = 7 → 2 ≤ m → scN σ σ1 → (fnR o m n = none → ∀ σ2, scN σ σ2 → K 0 σ2) → (∀ r, fnR o m n = some r → ∀ σ2, scN σ σ2 → RG σ2 r → r.length ≤ 6 → K (nI r.length) σ2) → Ev (d + 7, 0, 0) 6 2 [aR (some 7), aI (nI m)] [] σ1 (eI K) := by
  intro n
  induction n with
  | zero =>
    intro m σ1 hm h2 hs h0 h1
    have hm' : m = 7 := by omega
    subst hm'
    have c1 : (6 : Int32) < nI 7 := by decide
    rw [v_6_2]
    simp only [z10, z00, not_true_eq_false, not_false_eq_true, false_implies, true_implies, implies_true, nI_1, Int32.add_zero, true_or, or_true, true_and, and_true, eI_eq, eL_eq, eR_eq, eV_eq, lg_cmp_ge, lg_cmp_le, lg_cmp_gt, lg_cmp_lt, lg_cmp_eq, v_6_3, v_6_5, v_6_8, v_6_9, v_6_10, v_6_11, v_6_12, v_6_15, v_6_18, v_6_19, v_6_20, v_6_23, v_6_26, v_6_27, c1]
    exact h0 rfl σ1 hs
  | succ n ih =>
    intro m σ1 hm h2 hs h0 h1
    have c1 : ¬ (6 : Int32) < nI m := nI_nlt (a := 6) (b := m) (by omega) (by omega)
    have hX1 := hs.xb hX
    have e : fnR o m (n + 1) = (flR o m [] 0).or (fnR o (m + 1) n) := rfl
    rw [e] at h0 h1
    rw [v_6_2]
    simp only [z10, z00, not_true_eq_false, not_false_eq_true, false_implies, true_implies, implies_true, nI_1, Int32.add_zero, true_or, or_true, true_and, and_true, eI_eq, eL_eq, eR_eq, eV_eq, lg_cmp_ge, lg_cmp_le, lg_cmp_gt, lg_cmp_lt, lg_cmp_eq, v_6_3, v_6_5, v_6_8, v_6_9, v_6_10, v_6_11, v_6_12, c1]
    obtain ⟨k, hk⟩ : ∃ k, m = k + 1 := ⟨m - 1, by omega⟩
    have hd : d + 6 = (d + (6 - k - 1)) + k + 1 := by omega
    rw [hd]
    have hG0 : RG σ1 [] := fun i q e => by cases e
    have := X_fillRing_all (σ := σ) (m := m) hX hR (by omega) k (d + (6 - k - 1)) [] 0 σ1 (fun x2 σ2 => Ev ((d + (6 - k - 1)) + k + 1 + 1, 0, 0) 6 15 [aR (some 7), aI (nI m)] [aI x2] σ2 (eI K)) (by simp; omega) hs hG0 (fun eN σ2 q1 q2 => by
      rw [← hk] at eN
      simp only [z10, z00, not_true_eq_false, not_false_eq_true, false_implies, true_implies, implies_true, nI_1, Int32.add_zero, true_or, or_true, true_and, and_true, eI_eq, eL_eq, eR_eq, eV_eq, lg_cmp_ge, lg_cmp_le, lg_cmp_gt, lg_cmp_lt, lg_cmp_eq, v_6_15, v_6_18, v_6_19, v_6_20, v_6_23]
      rw [← hd]
      rw [eN, Option.none_or] at h0 h1
      exact ih (m + 1) σ2 (by omega) (by omega) q1 h0 h1) (fun r eS σ2 q1 q2 q3 => by
      rw [← hk] at eS
      simp only [z10, z00, not_true_eq_false, not_false_eq_true, false_implies, true_implies, implies_true, nI_1, Int32.add_zero, true_or, or_true, true_and, and_true, eI_eq, eL_eq, eR_eq, eV_eq, lg_cmp_ge, lg_cmp_le, lg_cmp_gt, lg_cmp_lt, lg_cmp_eq, v_6_15, v_6_18, v_6_19, v_6_20, v_6_23]
      rw [eS, Option.some_or] at h1
      have := h1 r rfl σ2 q1 q2 (by omega)
      rw [q3] at this
      exact this)
    exact this
theorem X_findRing {d : Nat} {σ : Sto} {K : Int32 → Sto → Prop} {o : Nat → Option Int64} (hX : XB σ) (hR : RpX σ 8 o) (h0 : fnR o 2 5 = none → ∀ σ2, scN σ σ2 → K 0 σ2) (h1 : ∀ r, fnR o 2 5 = some r → ∀ σ2, scN σ σ2 → RG σ2 r → r.length ≤ 6 → K (nI r.length) σ2) : CI (d + 7) 6 [aR (some 7)] σ K := by
  refine CI_of ?_
  show Ev (d + 7, 0, 0) 6 0 [aR (some 7), aU] [] σ _
  simp only [z10, z00, not_true_eq_false, not_false_eq_true, false_implies, true_implies, implies_true, nI_1, Int32.add_zero, true_or, or_true, true_and, and_true, eI_eq, eL_eq, eR_eq, eV_eq, lg_cmp_ge, lg_cmp_le, lg_cmp_gt, lg_cmp_lt, lg_cmp_eq, v_6_0, v_6_1]
  exact X_findRing_loop (d := d) (K := K) hX hR 5 2 σ (by omega) (by omega) (scN.rfl σ) h0 h1
theorem X_reckon1x {d : Nat} {σ : Sto} {Q : Po} {z M : Nat} {u3 : AV} (hX : XB σ) (hz : z < 6) (hM : M ≤ 10000000000000) : ∀ (n x : Nat) (σ1 : Sto) (f : Nat → Option Int64), x + n = 6 → scZ 9 σ σ1 → RpX σ1 9 f → bnd z (6 * x) M f → (∀ σ2, scZ 9 σ σ2 → RpX σ2 9 (itr (fun x o => itr (fun y o => fwS z x y o) 0 6 o) x n f) → bnd z 36 M (itr (fun x o => itr (fun y o => fwS z x y o) 0 6 o) x n f) → Ev (d + 2, 0, 0) 4 43 [aR (some 7), aI (nI z), aI (nI 6), u3] [] σ2 Q) → Ev (d + 2, 0, 0) 4 25 [aR (some 7), aI (nI z), aI (nI x), u3] [] σ1 Q := by
  intro n
  induction n with
  | zero =>
    intro x σ1 f hx hs hR hb h
    have hx' : x = 6 := by omega
    subst hx'
    have hle : (6 : Int32) ≤ nI 6 := by decide
    rw [v_4_25]
    simp only [z10, z00, not_true_eq_false, not_false_eq_true, false_implies, true_implies, implies_true, nI_1, Int32.add_zero, true_or, or_true, true_and, and_true, eI_eq, eL_eq, eR_eq, eV_eq, lg_cmp_ge, lg_cmp_le, lg_cmp_gt, lg_cmp_lt, lg_cmp_eq, v_4_26, v_4_28, v_4_31, v_4_32, v_4_33, v_4_34, v_4_37, v_4_40, hle]
    exact h σ1 hs hR hb
  | succ n ih =>
    intro x σ1 f hx hs hR hb h
    have hle : ¬ (6 : Int32) ≤ nI x := nI_ge (b := 6) (a := x) (by omega) (by omega)
    have hX1 := hs.xb hX
    rw [v_4_25]
    simp only [z10, z00, not_true_eq_false, not_false_eq_true, false_implies, true_implies, implies_true, nI_1, Int32.add_zero, true_or, or_true, true_and, and_true, eI_eq, eL_eq, eR_eq, eV_eq, lg_cmp_ge, lg_cmp_le, lg_cmp_gt, lg_cmp_lt, lg_cmp_eq, v_4_26, v_4_28, v_4_31, v_4_32, v_4_33, v_4_34, hle, hX1.o7]
    refine X_lowerBy hX1 hz (by omega) hM hR hb (fun σ2 q1 q2 q3 => ?_)
    simp only [z10, z00, not_true_eq_false, not_false_eq_true, false_implies, true_implies, implies_true, nI_1, Int32.add_zero, true_or, or_true, true_and, and_true, eI_eq, eL_eq, eR_eq, eV_eq, lg_cmp_ge, lg_cmp_le, lg_cmp_gt, lg_cmp_lt, lg_cmp_eq, v_4_37, v_4_40, nI_1]
    exact ih (x + 1) σ2 _ (by omega) (hs.trans q1) q2 q3 h
theorem X_reckon1 {d : Nat} {σ : Sto} {Q : Po} {u3 : AV} (hX : XB σ) : ∀ (n z : Nat) (σ1 : Sto) (f : Nat → Option Int64) (u2 : AV), z + n = 6 → scZ 9 σ σ1 → RpX σ1 9 f → bnd z 0 (6 ^ z * 1000000000) f → (∀ σ2 u2, scZ 9 σ σ2 → RpX σ2 9 (itr (fun z o => itr (fun x o => itr (fun y o => fwS z x y o) 0 6 o) 0 6 o) z n f) → Ev (d + 2, 0, 0) 4 49 [aR (some 7), aI (nI 6), u2, u3] [] σ2 Q) → Ev (d + 2, 0, 0) 4 17 [aR (some 7), aI (nI z), u2, u3] [] σ1 Q := by
  intro n
  induction n with
  | zero =>
    intro z σ1 f u2 hz hs hR hb h
    have hz' : z = 6 := by omega
    subst hz'
    have hle : (6 : Int32) ≤ nI 6 := by decide
    rw [v_4_17]
    simp only [z10, z00, not_true_eq_false, not_false_eq_true, false_implies, true_implies, implies_true, nI_1, Int32.add_zero, true_or, or_true, true_and, and_true, eI_eq, eL_eq, eR_eq, eV_eq, lg_cmp_ge, lg_cmp_le, lg_cmp_gt, lg_cmp_lt, lg_cmp_eq, v_4_18, v_4_20, hle]
    exact h σ1 u2 hs hR
  | succ n ih =>
    intro z σ1 f u2 hz hs hR hb h
    have hle : ¬ (6 : Int32) ≤ nI z := nI_ge (b := 6) (a := z) (by omega) (by omega)
    have hX1 := hs.xb hX
    have hp : 6 ^ z ≤ 6 ^ 5 := Nat.pow_le_pow_right (by decide) (by omega)
    rw [v_4_17]
    simp only [z10, z00, not_true_eq_false, not_false_eq_true, false_implies, true_implies, implies_true, nI_1, Int32.add_zero, true_or, or_true, true_and, and_true, eI_eq, eL_eq, eR_eq, eV_eq, lg_cmp_ge, lg_cmp_le, lg_cmp_gt, lg_cmp_lt, lg_cmp_eq, v_4_18, v_4_20, v_4_23, v_4_24, hle]
    rw [← nI_0]
    refine X_reckon1x hX1 (show z < 6 by omega) (M := 6 ^ z * 1000000000) (by omega) 6 0 σ1 f (by omega) (scZ.rfl 9 σ1) hR hb (fun σ2 q1 q2 q3 => ?_)
    simp only [z10, z00, not_true_eq_false, not_false_eq_true, false_implies, true_implies, implies_true, nI_1, Int32.add_zero, true_or, or_true, true_and, and_true, eI_eq, eL_eq, eR_eq, eV_eq, lg_cmp_ge, lg_cmp_le, lg_cmp_gt, lg_cmp_lt, lg_cmp_eq, v_4_43, v_4_46, nI_1]
    have q4 := bnd_next q3
    rw [← Nat.mul_assoc, Nat.mul_comm 6, ← Nat.pow_succ] at q4
    exact ih (z + 1) σ2 _ _ (by omega) (hs.trans q1) q2 q4 h
/-- what is reckoned is written -/
def scK (σ σ' : Sto) : Prop := sn σ' = sn σ ∧ gr σ' = gr σ ∧ (∀ a k, a ≠ 11 → ¬ (a = 7 ∧ (k = 4 ∨ k = 5 ∨ k = 6)) → gi σ' a k = gi σ a k) ∧ (∀ a, a ≠ 9 → gl σ' a = gl σ a)
theorem scK.rfl (σ : Sto) : scK σ σ := ⟨Eq.refl _, Eq.refl _, fun _ _ _ _ => Eq.refl _, fun _ _ => Eq.refl _⟩
theorem scK.trans {σ σ' σ'' : Sto} (h1 : scK σ σ') (h2 : scK σ' σ'') : scK σ σ'' := ⟨h2.1.trans h1.1, h2.2.1.trans h1.2.1, fun a k e1 e2 => (h2.2.2.1 a k e1 e2).trans (h1.2.2.1 a k e1 e2), fun a e => (h2.2.2.2 a e).trans (h1.2.2.2 a e)⟩
theorem scK.xb {σ σ' : Sto} (h : scK σ σ') (hX : XB σ) : XB σ' := XB_of (Nat.le_of_eq h.1.symm) (fun b k _ _ => by rw [h.2.1]) hX
theorem scK.n {σ σ' : Sto} (h : scN σ σ') : scK σ σ' := ⟨h.1, h.2.1, fun a k e _ => by rw [h.2.2.1 a e], fun a _ => by rw [h.2.2.2]⟩
theorem scK.z {σ σ' : Sto} (h : scZ 9 σ σ') : scK σ σ' := ⟨h.1, h.2.1, fun a k _ _ => by rw [h.2.2.1], h.2.2.2⟩
theorem scK.i {σ : Sto} {k : Nat} {v : Int32} (h : k = 4 ∨ k = 5 ∨ k = 6) : scK σ (si σ 7 k v) := ⟨Eq.refl _, Eq.refl _, fun a j _ e => by rw [gi_si_k, if_neg (fun q => e ⟨q.1, by rw [q.2]; exact h⟩)], fun _ _ => Eq.refl _⟩
theorem X_reckon2 {b : B3} {σ : Sto} {Q : Po} {f : Nat → Option Int64} (hX : XB σ) (hR : RpX σ 9 f) : ∀ (n x : Nat) (g : Bool) (σ1 : Sto) (u2 u3 : AV), x + n = 6 → scK σ σ1 → RpX σ1 9 f → gl σ1 = gl σ → gi σ1 7 5 = bI g → (∀ σ2 u2 u3, scK σ σ2 → gl σ2 = gl σ → gi σ2 7 5 = bI (itr (fun x b => b && nnB f x) x n g) → Ev b 4 110 [aR (some 7), aI (nI 6), u2, u3] [] σ2 Q) → Ev b 4 56 [aR (some 7), aI (nI x), u2, u3] [] σ1 Q := by
  intro n
  induction n with
  | zero =>
    intro x g σ1 u2 u3 hx hs hR1 hgl hg h
    have hx' : x = 6 := by omega
    subst hx'
    have hle : (6 : Int32) ≤ nI 6 := by decide
    rw [v_4_56]
    simp only [z10, z00, not_true_eq_false, not_false_eq_true, false_implies, true_implies, implies_true, nI_1, Int32.add_zero, true_or, or_true, true_and, and_true, eI_eq, eL_eq, eR_eq, eV_eq, lg_cmp_ge, lg_cmp_le, lg_cmp_gt, lg_cmp_lt, lg_cmp_eq, v_4_57, v_4_59, hle]
    exact h σ1 u2 u3 hs hgl hg
  | succ n ih =>
    intro x g σ1 u2 u3 hx hs hR1 hgl hg h
    have hle : ¬ (6 : Int32) ≤ nI x := nI_ge (b := 6) (a := x) (by omega) (by omega)
    have hX1 := hs.xb hX
    have kk : 6 * x + x < 36 := by omega
    have cc : (nI (6 * x + x)).toNatClampNeg = 6 * x + x := nI_clamp (by omega)
    obtain ⟨r1, r2⟩ := hR1 _ kk
    have e3 : itr (fun x b => b && nnB f x) x (n + 1) g = itr (fun x b => b && nnB f x) (x + 1) n (g && nnB f x) := rfl
    rw [e3] at h
    have fin : ∀ (g' : Bool) u2 u3, g' = (g && nnB f x) → Ev b 4 104 [aR (some 7), aI (nI x), u2, u3] [] (si σ1 7 5 (bI g')) Q := by
      intro g' u2 u3 e
      simp only [z10, z00, not_true_eq_false, not_false_eq_true, false_implies, true_implies, implies_true, nI_1, Int32.add_zero, true_or, or_true, true_and, and_true, eI_eq, eL_eq, eR_eq, eV_eq, lg_cmp_ge, lg_cmp_le, lg_cmp_gt, lg_cmp_lt, lg_cmp_eq, v_4_104, v_4_107, nI_1]
      refine ih (x + 1) g' _ _ _ (by omega) (hs.trans (scK.i (Or.inr (Or.inl rfl)))) (fun k hk => hR1 k hk) hgl (by rw [gi_si_k, if_pos ⟨rfl, rfl⟩]) ?_
      rw [e]
      exact h
    have en1 : f (6 * x + x) = none → nnB f x = true := fun e => by unfold nnB; rw [← k61, e]
    have en2 : ∀ v, f (6 * x + x) = some v → nnB f x = decide (0 ≤ v) := fun v e => by unfold nnB; rw [← k61, e]
    have nz : ∀ z : Int64, oL (some z) = z := fun _ => rfl
    rw [v_4_56]
    simp only [z10, z00, not_true_eq_false, not_false_eq_true, false_implies, true_implies, implies_true, nI_1, Int32.add_zero, true_or, or_true, true_and, and_true, eI_eq, eL_eq, eR_eq, eV_eq, lg_cmp_ge, lg_cmp_le, lg_cmp_gt, lg_cmp_lt, lg_cmp_eq, v_4_57, v_4_59, v_4_62, v_4_63, v_4_66, v_4_67, v_4_69, v_4_70, v_4_71, v_4_72, v_4_73, v_4_74, v_4_75, v_4_76, v_4_79, v_4_82, v_4_83, v_4_86, v_4_87, v_4_90, v_4_91, v_4_92, v_4_93, v_4_96, v_4_97, v_4_100, v_4_101, hle, hX1.o7, hX1.r7_1, ix6', hX1.a9 kk, cc, hg, r1, oL_no r2]
    cases g with
    | false =>
      simp only [bI, Bool.false_eq_true, if_false, z10, z00, not_true_eq_false, not_false_eq_true, false_implies, true_implies, implies_true, true_and, and_true, true_or, or_true, false_and, and_false, false_or, or_false]
      exact fin false _ _ (by simp)
    | true =>
      simp only [bI, if_true, z10, z00, not_true_eq_false, not_false_eq_true, false_implies, true_implies, implies_true, true_and, and_true, true_or, or_true, false_and, and_false, false_or, or_false]
      cases hf : f (6 * x + x) with
      | none =>
        simp only [z10, z00, not_true_eq_false, not_false_eq_true, false_implies, true_implies, implies_true, true_and, and_true, true_or, or_true, false_and, and_false, false_or, or_false]
        exact fin true _ _ (by simp [en1 hf])
      | some v =>
        have enn := en2 v hf
        simp only [reduceCtorEq, nz, z10, z00, not_true_eq_false, not_false_eq_true, false_implies, true_implies, implies_true, true_and, and_true, true_or, or_true, false_and, and_false, false_or, or_false]
        refine ⟨fun q => fin false _ _ ?_, fun q => fin true _ _ ?_⟩
        · rw [enn]
          simp only [Bool.true_and]
          exact (decide_eq_false (Int64.not_le.mpr q)).symm
        · rw [enn]
          simp only [Bool.true_and]
          exact (decide_eq_true (Int64.not_lt.mp q)).symm
def RZ (σ : Sto) (o : Nat → Option Int64) : Prop := (agB (fwA o) = true → gi σ 7 4 = 0) ∧ (agB (fwA o) = false → fnR o 2 5 = none → gi σ 7 4 = 0) ∧ (agB (fwA o) = false → ∀ r, fnR o 2 5 = some r → gi σ 7 4 = nI r.length ∧ RG σ r ∧ r.length ≤ 6)
/-- what is known of the clocks -/
def KN (σ : Sto) (o : Nat → Option Int64) : Prop := RpX σ 8 o ∧ RpX σ 9 (fwA o) ∧ gi σ 7 5 = bI (agB (fwA o)) ∧ RZ σ o
theorem X_reckon {d : Nat} {σ : Sto} {K : Sto → Prop} {o : Nat → Option Int64} (hX : XB σ) (hR : RpX σ 8 o) (hb : bnd 0 0 1000000000 o) (h : ∀ σ2, scK σ σ2 → KN σ2 o → gi σ2 7 6 = 1 → K σ2) : CV (d + 8) 4 [aR (some 7)] σ K := by
  have hsn := hX.s
  have kd8 : kd 8 = (8, 36) := by decide
  have kd9 : kd 9 = (8, 36) := by decide
  have s1 : 8 < sn σ := by omega
  have s2 : 9 < sn σ := by omega
  have c00 : (0 : Int32).toNatClampNeg = 0 := by decide
  have c36 : (36 : Int32).toNatClampNeg = 36 := by decide
  have n00 : ¬ (0 : Int32) < 0 := by decide
  have n36 : ¬ (36 : Int32) < 0 := by decide
  have le36 : 0 + 36 ≤ 36 := by decide
  refine CV_of ?_
  show Ev (d + 8, 0, 0) 4 0 [aR (some 7), aU, aU, aU] [] σ _
  simp only [z10, z00, not_true_eq_false, not_false_eq_true, false_implies, true_implies, implies_true, nI_1, Int32.add_zero, true_or, or_true, true_and, and_true, eI_eq, eL_eq, eR_eq, eV_eq, lg_cmp_ge, lg_cmp_le, lg_cmp_gt, lg_cmp_lt, lg_cmp_eq, v_4_0, v_4_1, v_4_4, v_4_5, v_4_6, v_4_9, v_4_10, hX.o7, hX.r7_0, hX.r7_1]
  rw [v_4_12]
  simp only [z10, z00, not_true_eq_false, not_false_eq_true, false_implies, true_implies, implies_true, nI_1, Int32.add_zero, true_or, or_true, true_and, and_true, eI_eq, eL_eq, eR_eq, eV_eq, lg_cmp_ge, lg_cmp_le, lg_cmp_gt, lg_cmp_lt, lg_cmp_eq, v_4_15, v_4_16, kd8, kd9, s1, s2, c00, c36, n00, n36, le36, z10, z00, not_true_eq_false, not_false_eq_true, false_implies, true_implies, implies_true, true_and, and_true, true_or, or_true, false_and, and_false, false_or, or_false]
  have hz0 : scZ 9 σ (slr σ 9 (va_cpy (gl σ 8) (gl σ 9) 0 0 36)) := ⟨rfl, rfl, rfl, fun b hb => (same_slr (σ := σ) hb).2.1⟩
  have hR9 : RpX (slr σ 9 (va_cpy (gl σ 8) (gl σ 9) 0 0 36)) 9 o := fun k hk => by
    have e : gl (slr σ 9 (va_cpy (gl σ 8) (gl σ 9) 0 0 36)) 9 = va_cpy (gl σ 8) (gl σ 9) 0 0 36 := gl_slr _ _ _
    rw [e]
    unfold va_cpy
    rw [if_pos (by omega)]
    simpa using hR k hk
  rw [← nI_0]
  refine X_reckon1 (d := d + 6) hX 6 0 _ o _ (by omega) hz0 hR9 (by simpa using hb) (fun σ2 u2 q1 q2 => ?_)
  have q2 : RpX σ2 9 (fwA o) := q2
  have hX2 := q1.xb hX
  simp only [z10, z00, not_true_eq_false, not_false_eq_true, false_implies, true_implies, implies_true, nI_1, Int32.add_zero, true_or, or_true, true_and, and_true, eI_eq, eL_eq, eR_eq, eV_eq, lg_cmp_ge, lg_cmp_le, lg_cmp_gt, lg_cmp_lt, lg_cmp_eq, v_4_49, v_4_50, v_4_51, v_4_54, v_4_55, hX2.o7]
  have hk2 : scK σ2 (si σ2 7 5 1) := scK.i (Or.inr (Or.inl rfl))
  rw [← nI_0]
  refine X_reckon2 hX2 q2 6 0 true _ _ _ (by omega) hk2 (fun k hk => q2 k hk) rfl (by rw [gi_si_k, if_pos ⟨rfl, rfl⟩]; rfl) (fun σ3 u2 u3 q3 q4 q5 => ?_)
  have q5 : gi σ3 7 5 = bI (agB (fwA o)) := q5
  have hX3 := q3.xb hX2
  have hR83 : RpX σ3 8 o := fun k hk => by rw [q3.2.2.2 8 (by decide), q1.2.2.2 8 (by decide)]; exact hR k hk
  have hR93 : RpX σ3 9 (fwA o) := fun k hk => by rw [q4]; exact q2 k hk
  have hs3 : scK σ σ3 := (scK.z q1).trans q3
  have fin : ∀ (v : Int32) (τ : Sto) (u2 u3 : AV), scN σ3 τ → RZ (si τ 7 4 v) o → Ev (d + 8, 0, 0) 4 129 [aR (some 7), aI (nI 6), u2, u3] [] (si τ 7 4 v) (eV K) := by
    intro v τ u2 u3 hτ hz
    have hXτ := hτ.xb hX3
    have ho : okO (si τ 7 4 v) 7 0 := hXτ.o7
    simp only [z10, z00, not_true_eq_false, not_false_eq_true, false_implies, true_implies, implies_true, nI_1, Int32.add_zero, true_or, or_true, true_and, and_true, eI_eq, eL_eq, eR_eq, eV_eq, lg_cmp_ge, lg_cmp_le, lg_cmp_gt, lg_cmp_lt, lg_cmp_eq, v_4_129, v_4_130, v_4_131, v_4_134, ho]
    refine h _ (((hs3.trans (scK.n hτ)).trans (scK.i (Or.inl rfl))).trans (scK.i (Or.inr (Or.inr rfl)))) ⟨?_, ?_, ?_, ?_⟩ (by rw [gi_si_k, if_pos ⟨rfl, rfl⟩])
    · exact hτ.rp hR83
    · exact hτ.rp hR93
    · rw [gi_si_k, if_neg (by omega), gi_si_k, if_neg (by omega), hτ.2.2.1 7 (by decide)]
      exact q5
    · obtain ⟨z1, z2, z3⟩ := hz
      refine ⟨fun e => ?_, fun e1 e2 => ?_, fun e1 r e2 => ?_⟩
      · rw [gi_si_k, if_neg (by omega)]; exact z1 e
      · rw [gi_si_k, if_neg (by omega)]; exact z2 e1 e2
      · obtain ⟨y1, y2, y3⟩ := z3 e1 r e2
        refine ⟨by rw [gi_si_k, if_neg (by omega)]; exact y1, fun i q hq => ?_, y3⟩
        have := y2 i q hq
        rw [gi_si_k, if_neg (by omega)]
        exact this
  simp only [z10, z00, not_true_eq_false, not_false_eq_true, false_implies, true_implies, implies_true, nI_1, Int32.add_zero, true_or, or_true, true_and, and_true, eI_eq, eL_eq, eR_eq, eV_eq, lg_cmp_ge, lg_cmp_le, lg_cmp_gt, lg_cmp_lt, lg_cmp_eq, v_4_110, v_4_111, v_4_112, v_4_115, v_4_118, v_4_119, v_4_122, v_4_123, v_4_126, hX3.o7, q5]
  cases hag : agB (fwA o) with
  | true =>
    simp only [bI, if_true, z10, z00, not_true_eq_false, not_false_eq_true, false_implies, true_implies, implies_true, true_and, and_true, true_or, or_true, false_and, and_false, false_or, or_false]
    refine fin 0 σ3 _ _ (scN.rfl σ3) ⟨fun _ => (by rw [gi_si_k, if_pos ⟨rfl, rfl⟩]), fun e => (by rw [hag] at e; cases e), fun e => (by rw [hag] at e; cases e)⟩
  | false =>
    simp only [bI, Bool.false_eq_true, if_false, z10, z00, not_true_eq_false, not_false_eq_true, false_implies, true_implies, implies_true, true_and, and_true, true_or, or_true, false_and, and_false, false_or, or_false]
    refine X_findRing hX3 hR83 (fun e σ4 g1 => ?_) (fun r e σ4 g1 g2 g3 => ?_)
    · have ho : okO σ4 7 0 := (g1.xb hX3).o7
      refine ⟨ho, fin 0 σ4 _ _ g1 ⟨fun e' => (by rw [hag] at e'; cases e'), fun _ _ => (by rw [gi_si_k, if_pos ⟨rfl, rfl⟩]), fun _ r e' => (by rw [e] at e'; cases e')⟩⟩
    · have ho : okO σ4 7 0 := (g1.xb hX3).o7
      refine ⟨ho, fin _ σ4 _ _ g1 ⟨fun e' => (by rw [hag] at e'; cases e'), fun _ e' => (by rw [e] at e'; cases e'), fun _ r' e' => ?_⟩⟩
      rw [e] at e'
      cases e'
      refine ⟨by rw [gi_si_k, if_pos ⟨rfl, rfl⟩], fun i q hq => ?_, g3⟩
      rw [gi_si_k, if_neg (by omega)]
      exact g2 i q hq
