/-! shifts, steps, totals -/
theorem wb_c : ∀ k, k < 64 → ((nI k).toInt64 &&& 63) = lN k := by decide +kernel
theorem pf_lI {a : Nat} (h : a < 2 ^ 63) : (lN a).toInt = (a : Int) := lg_ofNat_toInt h
theorem pf_shr {a d : Nat} {D : Int64} (hD : (D.toBitVec.smod 64).toNat = d) (h : a < 2 ^ 62) : lN a >>> D = lN (a / 2 ^ d) := by
  have hd : a / 2 ^ d ≤ a := Nat.div_le_self _ _
  apply Int64.toInt_inj.mp
  have e : (lN a >>> D).toInt = (lN a).toInt >>> d := by
    rw [← hD]
    exact BitVec.toInt_sshiftRight ..
  rw [e, Int.shiftRight_eq_div_pow, pf_lI (by omega), pf_lI (by omega)]
  rfl
theorem shN {m s : Nat} (hs : s < 64) (hm : m < 2 ^ 62) : lN m >>> ((nI s).toInt64 &&& 63) = lN (m / 2 ^ s) := by
  rw [wb_c s hs]
  have hD : ((lN s).toBitVec.smod 64).toNat = s := by
    have : ∀ s, s < 64 → ((lN s).toBitVec.smod 64).toNat = s := by decide +kernel
    exact this s hs
  exact pf_shr hD hm
theorem bts_sh : ∀ (f m s : Nat), bts f (m / 2 ^ s) = if m / 2 ^ s = 0 then 0 else (match f with
    | 0 => 0
    | f + 1 => bts f (m / 2 ^ (s + 1)) + 1) := by
  intro f m s
  cases f with
  | zero => simp [bts]
  | succ f =>
    rw [bts, Nat.div_div_eq_div_mul, ← Nat.pow_succ]
theorem X_stepOf_loop {b : B3} {σ : Sto} {K : Int32 → Sto → Prop} {m : Nat} (hm : m < 2 ^ 30) : ∀ (f s : Nat), s + f = 30 → K (nI (s + bts f (m / 2 ^ s))) σ → Ev b 27 2 [aL (lN m), aU, aI (nI s)] [] σ (eI K) := by
  intro f
  induction f with
  | zero =>
    intro s hs h
    have hs' : s = 30 := by omega
    subst hs'
    have c1 : (30 : Int32) ≤ nI 30 := by decide
    rw [v_27_2]
    simp only [z10, z00, not_true_eq_false, not_false_eq_true, false_implies, true_implies, implies_true, nI_1, Int32.add_zero, true_or, or_true, true_and, and_true, eI_eq, eL_eq, eR_eq, eV_eq, lg_cmp_ge, lg_cmp_le, lg_cmp_gt, lg_cmp_lt, lg_cmp_eq, v_27_3, v_27_5, v_27_8, v_27_9, v_27_10, v_27_11, v_27_12, v_27_13, v_27_16, v_27_19, v_27_22, v_27_23, c1]
    exact h
  | succ f ih =>
    intro s hs h
    have c1 : ¬ (30 : Int32) ≤ nI s := nI_ge (b := 30) (a := s) (by omega) (by omega)
    have hd : m / 2 ^ s < 2 ^ 31 := Nat.lt_of_le_of_lt (Nat.div_le_self _ _) (by omega)
    have e0 : lN (m / 2 ^ s) = 0 ↔ m / 2 ^ s = 0 := lN_eq (b := 0) hd (by omega)
    rw [v_27_2]
    simp only [z10, z00, not_true_eq_false, not_false_eq_true, false_implies, true_implies, implies_true, nI_1, Int32.add_zero, true_or, or_true, true_and, and_true, eI_eq, eL_eq, eR_eq, eV_eq, lg_cmp_ge, lg_cmp_le, lg_cmp_gt, lg_cmp_lt, lg_cmp_eq, v_27_3, v_27_5, v_27_8, v_27_9, v_27_10, v_27_11, v_27_12, v_27_13, v_27_16, v_27_19, v_27_22, v_27_23, c1, shN (m := m) (s := s) (by omega) (by omega), e0]
    rw [bts_sh] at h
    refine ⟨fun g => by rw [if_pos g] at h; exact h, fun g => ih (s + 1) (by omega) ?_⟩
    rw [if_neg g] at h
    simp only at h
    rw [show s + 1 + bts f (m / 2 ^ (s + 1)) = s + (bts f (m / 2 ^ (s + 1)) + 1) by omega]
    exact h
theorem X_stepOf {d : Nat} {σ : Sto} {K : Int32 → Sto → Prop} {m : Nat} (hm : m < 2 ^ 30) (h : K (nI (bts 30 m)) σ) : CI d 27 [aL (lN m)] σ K := by
  refine CI_of ?_
  show Ev (d, 0, 0) 27 0 [aL (lN m), aU, aU] [] σ _
  simp only [z10, z00, not_true_eq_false, not_false_eq_true, false_implies, true_implies, implies_true, nI_1, Int32.add_zero, true_or, or_true, true_and, and_true, eI_eq, eL_eq, eR_eq, eV_eq, lg_cmp_ge, lg_cmp_le, lg_cmp_gt, lg_cmp_lt, lg_cmp_eq, v_27_0, v_27_1]
  have := X_stepOf_loop (b := (d, 0, 0)) (σ := σ) (K := K) hm 30 0 (by omega) (by simpa using h)
  simpa only [nI_0] using this
/-- a span is added to the totals n times -/
def tlA (σ : Sto) (r : Rw) (n : Int32) : Sto := si (si (si σ 4 (gfI r) (gi σ 4 (gfI r) + n)) 5 (gfI r) (gi σ 5 (gfI r) + rF r * n)) 6 (31 * gfI r + stp r) (gi σ 6 (31 * gfI r + stp r) + n)
theorem ix31 (p j : Nat) : nI p * 31 + nI j = nI (31 * p + j) := by rw [show (31 : Int32) = nI 31 from rfl, pk_mul, nI_add, Nat.mul_comm]
theorem X_addT {d : Nat} {σ : Sto} {K : Sto → Prop} {a : Nat} {n t : Int32} (hX : XB σ) (ha : okO σ a 1) (ha3 : 103 ≤ a) (hR : okR (rwX σ t a)) (h : K (tlA σ (rwX σ t a) n)) : CV (d + 1) 24 [aR (some 3), aR (some a), aI n] σ K := by
  have hst := stp_le (rwX σ t a)
  obtain ⟨-, -, -, ⟨v, hv, ev⟩, ⟨c, hc, ec⟩, -, -, ⟨b, e, hb, he, e1, e2⟩⟩ := hR
  have ev' : gi σ a 2 = nI v := ev
  have ec' : gi σ a 3 = nI c := ec
  have e1' : gl σ a 6 = lN b := e1
  have e2' : gl σ a 7 = lN e := e2
  have eg : gfI (rwX σ t a) = 8 * v + c := by
    unfold gfI
    rw [ev, ec, nI_clamp (by omega), nI_clamp (by omega)]
  have es := stp_of hb he e1 e2
  unfold tlA at h
  rw [eg] at h
  have eF : rF (rwX σ t a) = gi σ a 5 := rfl
  rw [eF] at h
  have ex : nI v * 8 + nI c = nI (8 * v + c) := by rw [show (8 : Int32) = nI 8 from rfl, pk_mul, nI_add, Nat.mul_comm]
  have i1 : 8 * v + c < 48 := by omega
  have i2 : 31 * (8 * v + c) + stp (rwX σ t a) < 1488 := by omega
  have c1 : (nI (8 * v + c)).toNatClampNeg = 8 * v + c := nI_clamp (by omega)
  have c2 : (nI (31 * (8 * v + c) + stp (rwX σ t a))).toNatClampNeg = 31 * (8 * v + c) + stp (rwX σ t a) := nI_clamp (by omega)
  have g5 : ∀ x, gi (si σ 4 (8 * v + c) x) 5 (8 * v + c) = gi σ 5 (8 * v + c) := fun x => by rw [gi_si_k, if_neg (by omega)]
  have ga : ∀ x, gi (si σ 4 (8 * v + c) x) a 5 = gi σ a 5 := fun x => by rw [gi_si_k, if_neg (by omega)]
  have g6 : ∀ x y i, gi (si (si σ 4 (8 * v + c) x) 5 (8 * v + c) y) 6 i = gi σ 6 i := fun x y i => by rw [gi_si_k, if_neg (by omega), gi_si_k, if_neg (by omega)]
  refine CV_of ?_
  show Ev (d + 1, 0, 0) 24 0 [aR (some 3), aR (some a), aI n, aU] [] σ _
  simp only [z10, z00, not_true_eq_false, not_false_eq_true, false_implies, true_implies, implies_true, nI_1, Int32.add_zero, true_or, or_true, true_and, and_true, eI_eq, eL_eq, eR_eq, eV_eq, lg_cmp_ge, lg_cmp_le, lg_cmp_gt, lg_cmp_lt, lg_cmp_eq, v_24_0, v_24_1, v_24_4, v_24_5, v_24_8, ha, ev', ec']
  refine X_placeOf ?_
  rw [ex]
  simp only [z10, z00, not_true_eq_false, not_false_eq_true, false_implies, true_implies, implies_true, nI_1, Int32.add_zero, true_or, or_true, true_and, and_true, eI_eq, eL_eq, eR_eq, eV_eq, lg_cmp_ge, lg_cmp_le, lg_cmp_gt, lg_cmp_lt, lg_cmp_eq, v_24_11, v_24_12, v_24_13, v_24_16, v_24_17, v_24_18, v_24_19, v_24_20, v_24_21, v_24_22, v_24_23, v_24_26, v_24_27, v_24_28, v_24_29, v_24_30, v_24_33, v_24_34, v_24_35, v_24_36, v_24_37, v_24_38, v_24_41, v_24_42, v_24_44, v_24_45, v_24_46, v_24_49, v_24_50, v_24_53, v_24_54, hX.o3, hX.r3_0, hX.r3_1, hX.r3_2, hX.x4 i1, hX.a4 i1, hX.x5 i1, hX.a5 i1, c1, okO_si, okA_si, okX_si, gr_si_r, gl_si_r, ha, g5, ga, e1', e2', lN_sub hb]
  refine X_stepOf (by omega) ?_
  rw [← es]
  simp only [z10, z00, not_true_eq_false, not_false_eq_true, false_implies, true_implies, implies_true, nI_1, Int32.add_zero, true_or, or_true, true_and, and_true, eI_eq, eL_eq, eR_eq, eV_eq, lg_cmp_ge, lg_cmp_le, lg_cmp_gt, lg_cmp_lt, lg_cmp_eq, v_24_57, v_24_58, v_24_59, v_24_60, v_24_61, v_24_62, v_24_63, ix31, hX.x6 i2, hX.a6 i2, c2, okA_si, okX_si, g6]
  exact h
theorem X_inStep {d : Nat} {σ : Sto} {K : Int32 → Sto → Prop} {p j : Nat} (hX : XB σ) (hp : p < 48) (hj : j ≤ 30) (h : K (gi σ 6 (31 * p + j)) σ) : CI d 25 [aR (some 3), aI (nI p), aI (nI j)] σ K := by
  have i2 : 31 * p + j < 1488 := by omega
  have c2 : (nI (31 * p + j)).toNatClampNeg = 31 * p + j := nI_clamp (by omega)
  refine CI_of ?_
  show Ev (d, 0, 0) 25 0 [aR (some 3), aI (nI p), aI (nI j)] [] σ _
  simp only [z10, z00, not_true_eq_false, not_false_eq_true, false_implies, true_implies, implies_true, nI_1, Int32.add_zero, true_or, or_true, true_and, and_true, eI_eq, eL_eq, eR_eq, eV_eq, lg_cmp_ge, lg_cmp_le, lg_cmp_gt, lg_cmp_lt, lg_cmp_eq, v_25_0, v_25_1, v_25_4, v_25_5, v_25_7, v_25_8, v_25_9, v_25_10, v_25_11, hX.o3, hX.r3_2, ix31, hX.x6 i2, c2]
  exact h
theorem X_stepOfPercent_loop {d : Nat} {σ : Sto} {K : Int32 → Sto → Prop} {p q m : Nat} {f : Nat → Nat} (hX : XB σ) (hp : p < 48) (hq : q ≤ 100) (hf : ∀ j, j ≤ 30 → gi σ 6 (31 * p + j) = nI (f j)) (hm : gi σ 4 p = nI m) (hm2 : m < 100000) (hs : ∀ j, j ≤ 31 → sm f 0 j ≤ m) : ∀ (k j n : Nat), j + k = 30 → n = sm f 0 j → K (nI (pcF f q m k j (n + f j))) σ → Ev (d + 1, 0, 0) 26 5 [aR (some 3), aI (nI p), aI (nI q), aI (nI n), aI (nI j)] [] σ (eI K) := by
  intro k
  induction k with
  | zero =>
    intro j n hj hn h
    have hj' : j = 30 := by omega
    subst hj'
    have c1 : (30 : Int32) ≤ nI 30 := by decide
    rw [v_26_5]
    simp only [z10, z00, not_true_eq_false, not_false_eq_true, false_implies, true_implies, implies_true, nI_1, Int32.add_zero, true_or, or_true, true_and, and_true, eI_eq, eL_eq, eR_eq, eV_eq, lg_cmp_ge, lg_cmp_le, lg_cmp_gt, lg_cmp_lt, lg_cmp_eq, v_26_7, v_26_9, v_26_12, v_26_13, v_26_14, v_26_15, v_26_17, v_26_20, v_26_21, v_26_22, v_26_23, v_26_25, v_26_26, v_26_27, v_26_28, v_26_31, v_26_32, v_26_33, v_26_34, v_26_37, v_26_39, v_26_40, v_26_43, v_26_46, v_26_48, c1]
    exact h
  | succ k ih =>
    intro j n hj hn h
    have c1 : ¬ (30 : Int32) ≤ nI j := nI_ge (b := 30) (a := j) (by omega) (by omega)
    have hcp : (nI p).toNatClampNeg = p := nI_clamp (by omega)
    have en : n + f j = sm f 0 (j + 1) := by
      rw [sm_split f j 1 0, hn]
      simp [sm]
    have hle : n + f j ≤ m := by rw [en]; exact hs (j + 1) (by omega)
    rw [v_26_5]
    simp only [z10, z00, not_true_eq_false, not_false_eq_true, false_implies, true_implies, implies_true, nI_1, Int32.add_zero, true_or, or_true, true_and, and_true, eI_eq, eL_eq, eR_eq, eV_eq, lg_cmp_ge, lg_cmp_le, lg_cmp_gt, lg_cmp_lt, lg_cmp_eq, v_26_7, v_26_9, v_26_12, v_26_13, v_26_14, v_26_15, v_26_17, c1, hX.o3]
    refine X_inStep hX hp (by omega) ?_
    rw [hf j (by omega)]
    have hb : q * m ≤ 100 * m := Nat.mul_le_mul_right _ hq
    have c2 : nI ((n + f j) * 100) < nI (q * m) ↔ (n + f j) * 100 < q * m := nI_ltI (by omega) (by omega)
    simp only [z10, z00, not_true_eq_false, not_false_eq_true, false_implies, true_implies, implies_true, nI_1, Int32.add_zero, true_or, or_true, true_and, and_true, eI_eq, eL_eq, eR_eq, eV_eq, lg_cmp_ge, lg_cmp_le, lg_cmp_gt, lg_cmp_lt, lg_cmp_eq, v_26_20, v_26_21, v_26_22, v_26_23, v_26_25, v_26_26, v_26_27, v_26_28, v_26_31, v_26_32, v_26_33, v_26_34, v_26_37, v_26_39, v_26_40, v_26_43, hX.o3, hX.r3_0, hX.x4 hp, hcp, hm, nI_add]
    rw [show (100 : Int32) = nI 100 from rfl, pk_mul, pk_mul, c2]
    unfold pcF at h
    refine ⟨fun g => ?_, fun g => ?_⟩
    · rw [if_neg (by omega)] at h
      refine ih (j + 1) (n + f j) (by omega) en h
    · rw [if_pos (by omega)] at h
      exact h
theorem X_stepOfPercent {d : Nat} {σ : Sto} {K : Int32 → Sto → Prop} {p q m : Nat} {f : Nat → Nat} (hX : XB σ) (hp : p < 48) (hq : q ≤ 100) (hf : ∀ j, j ≤ 30 → gi σ 6 (31 * p + j) = nI (f j)) (hm : gi σ 4 p = nI m) (hm2 : m < 100000) (hs : ∀ j, j ≤ 31 → sm f 0 j ≤ m) (h : K (nI (pcF f q m 30 0 (f 0))) σ) : CI (d + 1) 26 [aR (some 3), aI (nI p), aI (nI q)] σ K := by
  refine CI_of ?_
  show Ev (d + 1, 0, 0) 26 0 [aR (some 3), aI (nI p), aI (nI q), aU, aU] [] σ _
  simp only [z10, z00, not_true_eq_false, not_false_eq_true, false_implies, true_implies, implies_true, nI_1, Int32.add_zero, true_or, or_true, true_and, and_true, eI_eq, eL_eq, eR_eq, eV_eq, lg_cmp_ge, lg_cmp_le, lg_cmp_gt, lg_cmp_lt, lg_cmp_eq, v_26_0, v_26_1, v_26_2, v_26_3]
  have := X_stepOfPercent_loop (d := d) (K := K) hX hp hq hf hm hm2 hs 30 0 0 (by omega) rfl (by simpa using h)
  simpa only [nI_0] using this
