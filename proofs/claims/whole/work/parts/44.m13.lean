/-! the reference: steps of lengths, totals -/
def okR (r : Rw) : Prop := (∃ t, t < 20 ∧ rT r = nI t) ∧ (∃ n, 1 ≤ n ∧ n ≤ 999 ∧ rN r = nI n) ∧ (∃ p, p ≤ 999 ∧ rP r = nI p) ∧ (∃ v, v < 6 ∧ rV r = nI v) ∧ (∃ c, c < 8 ∧ rC r = nI c) ∧ (∃ k, k ≤ 4 ∧ rK r = nI k) ∧ (∃ f, f ≤ 1 ∧ rF r = nI f) ∧ (∃ b e, b ≤ e ∧ e ≤ 1000000000 ∧ rB r = lN b ∧ rE r = lN e)
theorem okR.v {r : Rw} (h : okR r) : okV r := h.2.2.2.1
/-- how often one halves -/
def bts : Nat → Nat → Nat
  | 0, _ => 0
  | f + 1, n => if n = 0 then 0 else bts f (n / 2) + 1
theorem bts_le : ∀ f n, bts f n ≤ f
  | 0, _ => Nat.le_refl _
  | f + 1, n => by
    unfold bts
    split
    · omega
    · have := bts_le f (n / 2); omega
def stp (r : Rw) : Nat := bts 30 (rE r - rB r).toInt.toNat
theorem stp_of {r : Rw} {b e : Nat} (hb : b ≤ e) (he : e ≤ 1000000000) (h1 : rB r = lN b) (h2 : rE r = lN e) : stp r = bts 30 (e - b) := by
  unfold stp
  rw [h1, h2, lN_sub hb, lN_toInt (by omega), Int.toNat_natCast]
theorem stp_le (r : Rw) : stp r ≤ 30 := bts_le _ _
theorem M_stepOf_loop {b : B3} {σ : Sto} {K : Int32 → Sto → Prop} {k : Int32} : ∀ (f n s : Nat), n < 2 ^ f → f ≤ 30 → K (nI (s + bts f n)) σ → Ev b 155 16 [aR (some 68), aI k, aI (nI s), aL (lN n), aU] [] σ (eI K) := by
  intro f
  induction f with
  | zero =>
    intro n s hn hf h
    have h0 : n = 0 := by omega
    subst h0
    have c1 : lN 0 ≤ 0 := by decide
    rw [v_155_16]
    simp only [z10, z00, not_true_eq_false, not_false_eq_true, false_implies, true_implies, implies_true, nI_1, Int32.add_zero, true_or, or_true, true_and, and_true, eI_eq, eL_eq, eR_eq, eV_eq, lg_cmp_ge, lg_cmp_le, lg_cmp_gt, lg_cmp_lt, lg_cmp_eq, v_155_17, v_155_18, v_155_19, v_155_22, v_155_25, v_155_26, v_155_29, v_155_30, v_155_31, v_155_34, v_155_35, c1]
    exact h
  | succ f ih =>
    intro n s hn hf h
    have z2 : ((2 : Int64) = 0) = False := eq_false (by decide)
    have hp : 2 ^ (f + 1) ≤ 2 ^ 30 := Nat.pow_le_pow_right (by decide) hf
    have ed : lN n / 2 = lN (n / 2) := pk_lDiv (b := 2) (by omega) (by decide) (by decide)
    have ec : lN n ≤ 0 ↔ n ≤ 0 := lN_le (b := 0) (by omega) (by decide)
    rw [v_155_16]
    simp only [z10, z00, not_true_eq_false, not_false_eq_true, false_implies, true_implies, implies_true, nI_1, Int32.add_zero, true_or, or_true, true_and, and_true, eI_eq, eL_eq, eR_eq, eV_eq, lg_cmp_ge, lg_cmp_le, lg_cmp_gt, lg_cmp_lt, lg_cmp_eq, v_155_17, v_155_18, v_155_19, v_155_22, v_155_25, v_155_26, v_155_29, v_155_30, v_155_31, v_155_34, v_155_35, z2, ed, ec]
    unfold bts at h
    refine ⟨fun g => by simpa [Nat.le_zero.mp g] using h, fun g => ih (n / 2) (s + 1) (by omega) (by omega) ?_⟩
    rw [if_neg (by omega)] at h
    rw [show s + 1 + bts f (n / 2) = s + (bts f (n / 2) + 1) by omega]
    exact h
theorem M_stepOf {d : Nat} {σ : Sto} {k : Nat} {K : Int32 → Sto → Prop} {S : Nat} (hM : MB σ S) (hk : k < S) (hR : okR (rwM σ k)) (h : K (nI (stp (rwM σ k))) σ) : CI d 155 [aR (some 68), aI (nI k)] σ K := by
  have hS := hM.c
  have hc : (nI k).toNatClampNeg = k := nI_clamp (by omega)
  obtain ⟨b, e, hb, he, e1, e2⟩ := hR.2.2.2.2.2.2.2
  rw [stp_of hb he e1 e2] at h
  have e1' : gl σ 76 k = lN b := e1
  have e2' : gl σ 77 k = lN e := e2
  refine CI_of ?_
  show Ev (d, 0, 0) 155 0 [aR (some 68), aI (nI k), aU, aU, aU] [] σ _
  simp only [z10, z00, not_true_eq_false, not_false_eq_true, false_implies, true_implies, implies_true, nI_1, Int32.add_zero, true_or, or_true, true_and, and_true, eI_eq, eL_eq, eR_eq, eV_eq, lg_cmp_ge, lg_cmp_le, lg_cmp_gt, lg_cmp_lt, lg_cmp_eq, v_155_0, v_155_1, v_155_2, v_155_3, v_155_6, v_155_7, v_155_8, v_155_9, v_155_12, v_155_13, v_155_14, v_155_15, hM.o, hM.r8, hM.r9, hM.a76 (k := k) (by omega), hM.a77 (k := k) (by omega), hc, e1', e2', lN_sub hb]
  have := M_stepOf_loop (b := (d, 0, 0)) (k := nI k) (K := K) 30 (e - b) 0 (by omega) (by omega) (by simpa using h)
  simpa only [nI_0] using this
def psB (s a j : Nat) (r : Rw) : Bool := decide (rV r = nI s ∧ rC r = nI a ∧ stp r = j)
theorem M_inStep_loop {d : Nat} {σ : Sto} {K : Int32 → Sto → Prop} {S s a j : Nat} (hM : MB σ S) (hR : ∀ k, k < S → okR (rwM σ k)) (hj : j < 2 ^ 31) : ∀ (n k c : Nat), k + n = S → K (nI (c + (rws σ k n).countP (psB s a j))) σ → Ev (d + 1, 0, 0) 157 21 [aR (some 68), aI (nI s), aI (nI a), aI (nI j), aI (nI c), aI (nI k)] [] σ (eI K) := by
  intro n
  induction n with
  | zero =>
    intro k c hk h
    have hk' : k = S := by omega
    subst hk'
    have hle : nI k ≤ nI k := Int32.le_refl _
    rw [v_157_21]
    simp only [z10, z00, not_true_eq_false, not_false_eq_true, false_implies, true_implies, implies_true, nI_1, Int32.add_zero, true_or, or_true, true_and, and_true, eI_eq, eL_eq, eR_eq, eV_eq, lg_cmp_ge, lg_cmp_le, lg_cmp_gt, lg_cmp_lt, lg_cmp_eq, v_157_23, v_157_24, v_157_27, v_157_30, v_157_32, v_157_33, v_157_36, v_157_38, v_157_39, v_157_40, v_157_43, v_157_44, v_157_47, v_157_49, v_157_50, v_157_51, v_157_54, v_157_55, v_157_57, v_157_60, v_157_61, v_157_64, v_157_65, v_157_68, v_157_69, v_157_70, v_157_72, v_157_75, v_157_78, v_157_80, hM.o, hM.n, hle]
    exact h
  | succ n ih =>
    intro k c hk h
    have hS := hM.c
    have hle : ¬ nI S ≤ nI k := nI_ge (by omega) (by omega)
    have hc : (nI k).toNatClampNeg = k := nI_clamp (by omega)
    rw [v_157_21]
    simp only [z10, z00, not_true_eq_false, not_false_eq_true, false_implies, true_implies, implies_true, nI_1, Int32.add_zero, true_or, or_true, true_and, and_true, eI_eq, eL_eq, eR_eq, eV_eq, lg_cmp_ge, lg_cmp_le, lg_cmp_gt, lg_cmp_lt, lg_cmp_eq, v_157_23, v_157_24, v_157_27, v_157_30, v_157_32, v_157_33, v_157_36, v_157_38, v_157_39, v_157_40, v_157_43, v_157_44, v_157_47, v_157_49, v_157_50, v_157_51, v_157_54, v_157_55, v_157_57, v_157_60, v_157_61, v_157_64, v_157_65, v_157_68, v_157_69, v_157_70, v_157_72, v_157_75, v_157_78, v_157_80, hM.o, hM.n, hM.r4, hM.r5, hM.x72 (k := k) (by omega), hM.x73 (k := k) (by omega), hle, hc]
    rw [rws, List.countP_cons] at h
    simp only [psB, rV_M, rC_M] at h
    refine ⟨fun g => ih (k + 1) c (by omega) (by simpa [g] using h), fun g => ?_⟩
    refine ⟨fun g2 => ih (k + 1) c (by omega) (by simpa [g2] using h), fun g2 => M_stepOf hM (by omega) (hR k (by omega)) ?_⟩
    have hs := stp_le (rwM σ k)
    simp only [nI_eq (show stp (rwM σ k) < 2 ^ 31 by omega) hj, nI_1, Int32.add_zero]
    refine ⟨fun g3 => ih (k + 1) c (by omega) (by simpa [g3] using h), fun g3 => ih (k + 1) (c + 1) (by omega) ?_⟩
    simpa [g, g2, g3, Nat.add_assoc, Nat.add_comm 1] using h
theorem ixP (s a : Nat) : 8 * nI s + nI a = nI (8 * s + a) := by rw [show (8 : Int32) = nI 8 from rfl, pk_mul, nI_add]
theorem ixS (x j : Nat) : 32 * nI x + nI j = nI (32 * x + j) := by rw [show (32 : Int32) = nI 32 from rfl, pk_mul, nI_add]
/-- how many there are or were, of a place, in a step -/
def iSt (R : List Rw) (gn : Nat → Nat) (s a j : Nat) : Nat := gn (32 * (8 * s + a) + j) + R.countP (psB s a j)
def Gn (σ : Sto) (gn : Nat → Nat) : Prop := ∀ i, i < 1536 → gi σ 101 i = nI (gn i)
theorem M_inStep {d : Nat} {σ : Sto} {K : Int32 → Sto → Prop} {S s a j : Nat} {gn : Nat → Nat} (hM : MB σ S) (hR : ∀ k, k < S → okR (rwM σ k)) (hG : Gn σ gn) (hs : s < 6) (ha : a < 8) (hj : j ≤ 30) (h : K (nI (iSt (rws σ 0 S) gn s a j)) σ) : CI (d + 1) 157 [aR (some 68), aI (nI s), aI (nI a), aI (nI j)] σ K := by
  have hi : 32 * (8 * s + a) + j < 1536 := by omega
  have hc : (nI (32 * (8 * s + a) + j)).toNatClampNeg = 32 * (8 * s + a) + j := nI_clamp (by omega)
  refine CI_of ?_
  show Ev (d + 1, 0, 0) 157 0 [aR (some 68), aI (nI s), aI (nI a), aI (nI j), aU, aU] [] σ _
  simp only [z10, z00, not_true_eq_false, not_false_eq_true, false_implies, true_implies, implies_true, nI_1, Int32.add_zero, true_or, or_true, true_and, and_true, eI_eq, eL_eq, eR_eq, eV_eq, lg_cmp_ge, lg_cmp_le, lg_cmp_gt, lg_cmp_lt, lg_cmp_eq, v_157_0, v_157_1, v_157_4, v_157_6, v_157_8, v_157_9, v_157_10, v_157_11, v_157_12, v_157_13, v_157_14, v_157_15, v_157_16, v_157_18, v_157_19, ixP, ixS, hM.o, hM.r43, hM.x101 (k := _) hi, hc, hG _ hi]
  have := M_inStep_loop (d := d) (K := K) (s := s) (a := a) (j := j) hM hR (by omega) S 0 (gn (32 * (8 * s + a) + j)) (by omega) h
  simpa only [nI_0] using this
def sm (f : Nat → Nat) : Nat → Nat → Nat
  | _, 0 => 0
  | k, n + 1 => f k + sm f (k + 1) n
theorem M_all_loop {d : Nat} {σ : Sto} {K : Int32 → Sto → Prop} {S s a : Nat} {gn : Nat → Nat} (hM : MB σ S) (hR : ∀ k, k < S → okR (rwM σ k)) (hG : Gn σ gn) (hs : s < 6) (ha : a < 8) : ∀ (n j c : Nat), j + n = 31 → K (nI (c + sm (iSt (rws σ 0 S) gn s a) j n)) σ → Ev (d + 2, 0, 0) 158 5 [aR (some 68), aI (nI s), aI (nI a), aI (nI c), aI (nI j)] [] σ (eI K) := by
  intro n
  induction n with
  | zero =>
    intro j c hj h
    have hj' : j = 31 := by omega
    subst hj'
    have c1 : (30 : Int32) < nI 31 := by decide
    rw [v_158_5]
    simp only [z10, z00, not_true_eq_false, not_false_eq_true, false_implies, true_implies, implies_true, nI_1, Int32.add_zero, true_or, or_true, true_and, and_true, eI_eq, eL_eq, eR_eq, eV_eq, lg_cmp_ge, lg_cmp_le, lg_cmp_gt, lg_cmp_lt, lg_cmp_eq, v_158_7, v_158_9, v_158_12, v_158_13, v_158_14, v_158_15, v_158_16, v_158_18, v_158_21, v_158_22, v_158_23, v_158_26, v_158_29, v_158_30, c1]
    exact h
  | succ n ih =>
    intro j c hj h
    have c1 : ¬ (30 : Int32) < nI j := nI_nlt (a := 30) (b := j) (by omega) (by omega)
    rw [v_158_5]
    simp only [z10, z00, not_true_eq_false, not_false_eq_true, false_implies, true_implies, implies_true, nI_1, Int32.add_zero, true_or, or_true, true_and, and_true, eI_eq, eL_eq, eR_eq, eV_eq, lg_cmp_ge, lg_cmp_le, lg_cmp_gt, lg_cmp_lt, lg_cmp_eq, v_158_7, v_158_9, v_158_12, v_158_13, v_158_14, v_158_15, v_158_16, v_158_18, v_158_21, v_158_22, v_158_23, v_158_26, v_158_29, v_158_30, c1, hM.o]
    refine M_inStep hM hR hG hs ha (by omega) ?_
    simp only [nI_add, nI_1]
    refine ih (j + 1) _ (by omega) ?_
    rw [Nat.add_assoc]
    exact h
def alN (R : List Rw) (gn : Nat → Nat) (s a : Nat) : Nat := sm (iSt R gn s a) 0 31
theorem M_all {d : Nat} {σ : Sto} {K : Int32 → Sto → Prop} {S s a : Nat} {gn : Nat → Nat} (hM : MB σ S) (hR : ∀ k, k < S → okR (rwM σ k)) (hG : Gn σ gn) (hs : s < 6) (ha : a < 8) (h : K (nI (alN (rws σ 0 S) gn s a)) σ) : CI (d + 2) 158 [aR (some 68), aI (nI s), aI (nI a)] σ K := by
  refine CI_of ?_
  show Ev (d + 2, 0, 0) 158 0 [aR (some 68), aI (nI s), aI (nI a), aU, aU] [] σ _
  simp only [z10, z00, not_true_eq_false, not_false_eq_true, false_implies, true_implies, implies_true, nI_1, Int32.add_zero, true_or, or_true, true_and, and_true, eI_eq, eL_eq, eR_eq, eV_eq, lg_cmp_ge, lg_cmp_le, lg_cmp_gt, lg_cmp_lt, lg_cmp_eq, v_158_0, v_158_1, v_158_2, v_158_3]
  have := M_all_loop (d := d) (K := K) hM hR hG hs ha 31 0 0 (by omega) (by rw [Nat.zero_add]; exact h)
  simpa only [nI_0] using this
def pfB (s a : Nat) (r : Rw) : Bool := decide (rV r = nI s ∧ rC r = nI a ∧ rF r = 1)
theorem M_total_loop {b : B3} {σ : Sto} {K : Int32 → Sto → Prop} {S s a : Nat} {x : Int32} (hM : MB σ S) (hR : ∀ k, k < S → okR (rwM σ k)) : ∀ (n k c : Nat), k + n = S → K (nI (c + (rws σ k n).countP (pfB s a))) σ → Ev b 159 70 [aR (some 68), aI (nI s), aI (nI a), aI x, aI (nI c), aI (nI k)] [] σ (eI K) := by
  intro n
  induction n with
  | zero =>
    intro k c hk h
    have hk' : k = S := by omega
    subst hk'
    have hle : nI k ≤ nI k := Int32.le_refl _
    rw [v_159_70]
    simp only [z10, z00, not_true_eq_false, not_false_eq_true, false_implies, true_implies, implies_true, nI_1, Int32.add_zero, true_or, or_true, true_and, and_true, eI_eq, eL_eq, eR_eq, eV_eq, lg_cmp_ge, lg_cmp_le, lg_cmp_gt, lg_cmp_lt, lg_cmp_eq, v_159_72, v_159_73, v_159_76, v_159_79, v_159_81, v_159_82, v_159_85, v_159_87, v_159_88, v_159_89, v_159_92, v_159_93, v_159_96, v_159_98, v_159_99, v_159_100, v_159_103, v_159_104, v_159_107, v_159_109, v_159_110, v_159_113, v_159_114, v_159_115, v_159_117, v_159_120, v_159_123, v_159_125, hM.o, hM.n, hle]
    exact h
  | succ n ih =>
    intro k c hk h
    have hS := hM.c
    have hle : ¬ nI S ≤ nI k := nI_ge (by omega) (by omega)
    have hc : (nI k).toNatClampNeg = k := nI_clamp (by omega)
    obtain ⟨f, hf, ef⟩ := (hR k (by omega)).2.2.2.2.2.2.1
    have ef' : gi σ 75 k = nI f := ef
    rw [v_159_70]
    simp only [z10, z00, not_true_eq_false, not_false_eq_true, false_implies, true_implies, implies_true, nI_1, Int32.add_zero, true_or, or_true, true_and, and_true, eI_eq, eL_eq, eR_eq, eV_eq, lg_cmp_ge, lg_cmp_le, lg_cmp_gt, lg_cmp_lt, lg_cmp_eq, v_159_72, v_159_73, v_159_76, v_159_79, v_159_81, v_159_82, v_159_85, v_159_87, v_159_88, v_159_89, v_159_92, v_159_93, v_159_96, v_159_98, v_159_99, v_159_100, v_159_103, v_159_104, v_159_107, v_159_109, v_159_110, v_159_113, v_159_114, v_159_115, v_159_117, v_159_120, v_159_123, v_159_125, hM.o, hM.n, hM.r4, hM.r5, hM.r7, hM.x72 (k := k) (by omega), hM.x73 (k := k) (by omega), hM.x75 (k := k) (by omega), hle, hc, ef', nI_add]
    rw [rws, List.countP_cons] at h
    simp only [pfB, rV_M, rC_M, ef] at h
    refine ⟨fun g => ih (k + 1) c (by omega) (by simpa [g] using h), fun g => ⟨fun g2 => ih (k + 1) c (by omega) (by simpa [g2] using h), fun g2 => ih (k + 1) (c + f) (by omega) ?_⟩⟩
    have e1 : (nI f = 1) ↔ f = 1 := nI_eq (b := 1) (by omega) (by omega)
    simp only [g, g2, e1] at h
    have hf2 : f = 0 ∨ f = 1 := by omega
    rcases hf2 with e | e
    · subst e; simpa [Nat.add_assoc, Nat.add_comm 1] using h
    · subst e; simpa [Nat.add_assoc, Nat.add_comm 1] using h
def Gf (σ : Sto) (gf : Nat → Nat) : Prop := ∀ i, i < 48 → gi σ 102 i = nI (gf i)
theorem M_total {d : Nat} {σ : Sto} {K : Int32 → Sto → Prop} {S : Nat} {gn gf : Nat → Nat} (hM : MB σ S) (hR : ∀ k, k < S → okR (rwM σ k)) (hG : Gn σ gn) (hF : Gf σ gf) {x y w : Int32} (h0 : ((x < 0 ∨ 6 ≤ x) ∨ (y < 0 ∨ 8 ≤ y) ∨ w < -2 ∨ 30 < w) → K (-1) σ) (h1 : ∀ s a, s < 6 → a < 8 → x = nI s → y = nI a → ((∀ j, j ≤ 30 → w = nI j → K (nI (iSt (rws σ 0 S) gn s a j)) σ) ∧ (w = -1 → K (nI (alN (rws σ 0 S) gn s a)) σ) ∧ (w = -2 → K (nI (gf (8 * s + a) + (rws σ 0 S).countP (pfB s a))) σ))) : CI (d + 3) 159 [aR (some 68), aI x, aI y, aI w] σ K := by
  refine CI_of ?_
  show Ev (d + 3, 0, 0) 159 0 [aR (some 68), aI x, aI y, aI w, aU, aU] [] σ _
  simp only [z10, z00, not_true_eq_false, not_false_eq_true, false_implies, true_implies, implies_true, nI_1, Int32.add_zero, true_or, or_true, true_and, and_true, eI_eq, eL_eq, eR_eq, eV_eq, lg_cmp_ge, lg_cmp_le, lg_cmp_gt, lg_cmp_lt, lg_cmp_eq, v_159_0, v_159_1, v_159_2, v_159_5, v_159_8, v_159_9, v_159_10, v_159_13, v_159_16, v_159_17, v_159_19, v_159_22, v_159_23, v_159_25, v_159_28, v_159_29, v_159_30, v_159_31, v_159_34, v_159_35, v_159_36, v_159_37, v_159_38, v_159_41, v_159_42, v_159_43, v_159_44, v_159_47, v_159_48, v_159_49, v_159_50, v_159_53, v_159_54, v_159_55, v_159_58, v_159_60, v_159_61, v_159_62, v_159_63, v_159_64, v_159_65, v_159_67, v_159_68, v_159_72, v_159_73, v_159_76, v_159_79, v_159_81, v_159_82, v_159_85, v_159_87, v_159_88, v_159_89, v_159_92, v_159_93, v_159_96, v_159_98, v_159_99, v_159_100, v_159_103, v_159_104, v_159_107, v_159_109, v_159_110, v_159_113, v_159_114, v_159_115, v_159_117, v_159_120, v_159_123, v_159_125, hM.o]
  refine M_isService (fun c => ?_) (fun c1 c2 => ?_)
  · simp only [z10, z00, not_true_eq_false, not_false_eq_true, false_implies, true_implies, implies_true, true_and, and_true, true_or, or_true, false_and, and_false, false_or, or_false]
    exact h0 (Or.inl c)
  · simp only [z10, z00, not_true_eq_false, not_false_eq_true, false_implies, true_implies, implies_true, true_and, and_true, true_or, or_true, false_and, and_false, false_or, or_false, hM.o]
    refine M_isAct (fun c => ?_) (fun c3 c4 => ?_)
    · simp only [z10, z00, not_true_eq_false, not_false_eq_true, false_implies, true_implies, implies_true, true_and, and_true, true_or, or_true, false_and, and_false, false_or, or_false]
      exact h0 (Or.inr (Or.inl c))
    · obtain ⟨s, hs, es⟩ := ix_of (n := 6) (by decide) c1 c2
      obtain ⟨a, ha, ea⟩ := ix_of (n := 8) (by decide) c3 c4
      subst es
      subst ea
      obtain ⟨h1, h2, h3⟩ := h1 s a hs ha rfl rfl
      simp only [z10, z00, not_true_eq_false, not_false_eq_true, false_implies, true_implies, implies_true, true_and, and_true, true_or, or_true, false_and, and_false, false_or, or_false, hM.o]
      refine ⟨fun g => h0 (Or.inr (Or.inr (Or.inl g))), fun g => ⟨fun g2 => ?_, fun g2 => h0 (Or.inr (Or.inr (Or.inr (Int32.not_le.mp g2))))⟩⟩
      refine ⟨fun g3 => ⟨fun g4 => ?_, fun g4 => ?_⟩, fun g3 => ?_⟩
      · have hi : 8 * s + a < 48 := by omega
        have hc : (nI (8 * s + a)).toNatClampNeg = 8 * s + a := nI_clamp (by omega)
        simp only [z10, z00, not_true_eq_false, not_false_eq_true, false_implies, true_implies, implies_true, nI_1, Int32.add_zero, true_or, or_true, true_and, and_true, eI_eq, eL_eq, eR_eq, eV_eq, lg_cmp_ge, lg_cmp_le, lg_cmp_gt, lg_cmp_lt, lg_cmp_eq, v_159_0, v_159_1, v_159_2, v_159_5, v_159_8, v_159_9, v_159_10, v_159_13, v_159_16, v_159_17, v_159_19, v_159_22, v_159_23, v_159_25, v_159_28, v_159_29, v_159_30, v_159_31, v_159_34, v_159_35, v_159_36, v_159_37, v_159_38, v_159_41, v_159_42, v_159_43, v_159_44, v_159_47, v_159_48, v_159_49, v_159_50, v_159_53, v_159_54, v_159_55, v_159_58, v_159_60, v_159_61, v_159_62, v_159_63, v_159_64, v_159_65, v_159_67, v_159_68, v_159_72, v_159_73, v_159_76, v_159_79, v_159_81, v_159_82, v_159_85, v_159_87, v_159_88, v_159_89, v_159_92, v_159_93, v_159_96, v_159_98, v_159_99, v_159_100, v_159_103, v_159_104, v_159_107, v_159_109, v_159_110, v_159_113, v_159_114, v_159_115, v_159_117, v_159_120, v_159_123, v_159_125, hM.o, ixP, hM.r44, hM.x102 (k := _) hi, hc, hF _ hi]
        have e2 : w = -2 := by
          have a1 := Int32.lt_iff_toInt_lt.mp g3
          have a2 : (-2 : Int32).toInt ≤ w.toInt := Int32.le_iff_toInt_le.mp (Int32.not_lt.mp g)
          have a3 : w.toInt ≠ (-1 : Int32).toInt := fun q => g4 (of_toInt q)
          have b1 : (0 : Int32).toInt = 0 := by decide
          have b2 : (-2 : Int32).toInt = -2 := by decide
          have b3 : (-1 : Int32).toInt = -1 := by decide
          rw [b1] at a1; rw [b2] at a2; rw [b3] at a3
          exact of_toInt (by rw [b2]; omega)
        have := M_total_loop (b := (d + 3, 0, 0)) (K := K) (s := s) (a := a) (x := w) hM hR S 0 (gf (8 * s + a)) (by omega) (h3 e2)
        simpa only [nI_0] using this
      · exact M_all hM hR hG hs ha (by simpa only [z10, z00, not_true_eq_false, not_false_eq_true, false_implies, true_implies, implies_true, nI_1, Int32.add_zero, true_or, or_true, true_and, and_true, eI_eq, eL_eq, eR_eq, eV_eq, lg_cmp_ge, lg_cmp_le, lg_cmp_gt, lg_cmp_lt, lg_cmp_eq, v_159_0, v_159_1, v_159_2, v_159_5, v_159_8, v_159_9, v_159_10, v_159_13, v_159_16, v_159_17, v_159_19, v_159_22, v_159_23, v_159_25, v_159_28, v_159_29, v_159_30, v_159_31, v_159_34, v_159_35, v_159_36, v_159_37, v_159_38, v_159_41, v_159_42, v_159_43, v_159_44, v_159_47, v_159_48, v_159_49, v_159_50, v_159_53, v_159_54, v_159_55, v_159_58, v_159_60, v_159_61, v_159_62, v_159_63, v_159_64, v_159_65, v_159_67, v_159_68, v_159_72, v_159_73, v_159_76, v_159_79, v_159_81, v_159_82, v_159_85, v_159_87, v_159_88, v_159_89, v_159_92, v_159_93, v_159_96, v_159_98, v_159_99, v_159_100, v_159_103, v_159_104, v_159_107, v_159_109, v_159_110, v_159_113, v_159_114, v_159_115, v_159_117, v_159_120, v_159_123, v_159_125] using h2 g4)
      · obtain ⟨j, hj, ej⟩ := nI_of2 (n := 30) (M := 30) (by decide) g3 g2
        subst ej
        exact M_inStep hM hR hG hs ha hj (by simpa only [z10, z00, not_true_eq_false, not_false_eq_true, false_implies, true_implies, implies_true, nI_1, Int32.add_zero, true_or, or_true, true_and, and_true, eI_eq, eL_eq, eR_eq, eV_eq, lg_cmp_ge, lg_cmp_le, lg_cmp_gt, lg_cmp_lt, lg_cmp_eq, v_159_0, v_159_1, v_159_2, v_159_5, v_159_8, v_159_9, v_159_10, v_159_13, v_159_16, v_159_17, v_159_19, v_159_22, v_159_23, v_159_25, v_159_28, v_159_29, v_159_30, v_159_31, v_159_34, v_159_35, v_159_36, v_159_37, v_159_38, v_159_41, v_159_42, v_159_43, v_159_44, v_159_47, v_159_48, v_159_49, v_159_50, v_159_53, v_159_54, v_159_55, v_159_58, v_159_60, v_159_61, v_159_62, v_159_63, v_159_64, v_159_65, v_159_67, v_159_68, v_159_72, v_159_73, v_159_76, v_159_79, v_159_81, v_159_82, v_159_85, v_159_87, v_159_88, v_159_89, v_159_92, v_159_93, v_159_96, v_159_98, v_159_99, v_159_100, v_159_103, v_159_104, v_159_107, v_159_109, v_159_110, v_159_113, v_159_114, v_159_115, v_159_117, v_159_120, v_159_123, v_159_125] using h1 j hj rfl)
