/-! the reference: count, report -/
def ctA (σ : Sto) (S : Nat) (w : Int32) : Int32 :=
  if w = 0 then nI S else if w = 1 then gi σ 68 13 else if w = 2 then gi σ 68 14 else if w = 3 then gi σ 68 15 else if w = 4 then gi σ 68 16 else if w = 5 then nI (cnt (paB σ S) 0 S) else if w = 6 then bI (agB (fwA (bdA σ S))) else if w = 7 then nI (cnt (fun t => decide (gi σ 78 t = 1)) 0 20) else if w = 8 then gi σ 68 17 else if w = 9 then gi σ 68 42 else if w = 10 then nI (cnt (fun k => decide (¬ gi σ 88 k = 0)) 0 6) else -1
theorem M_count5 {d : Nat} {σ : Sto} {K : Int32 → Sto → Prop} {S : Nat} (hM : MB σ S) {x : Int32} : ∀ (n k c : Nat), k + n = S → K (nI (c + cnt (paB σ S) k n)) σ → Ev (d + 3, 0, 0) 162 87 [aR (some 68), aI x, aI (nI c), aI (nI k)] [] σ (eI K) := by
  intro n
  induction n with
  | zero =>
    intro k c hk h
    have hk' : k = S := by omega
    subst hk'
    have hle : nI k ≤ nI k := Int32.le_refl _
    rw [v_162_87]
    simp only [z10, z00, not_true_eq_false, not_false_eq_true, false_implies, true_implies, implies_true, nI_1, Int32.add_zero, true_or, or_true, true_and, and_true, eI_eq, eL_eq, eR_eq, eV_eq, lg_cmp_ge, lg_cmp_le, lg_cmp_gt, lg_cmp_lt, lg_cmp_eq, v_162_88, v_162_89, v_162_92, v_162_95, v_162_96, v_162_97, v_162_98, v_162_101, v_162_104, v_162_105, v_162_108, v_162_109, v_162_110, v_162_111, v_162_114, v_162_117, v_162_118, hM.o, hM.n, hle]
    exact h
  | succ n ih =>
    intro k c hk h
    have hS := hM.c
    have hle : ¬ nI S ≤ nI k := nI_ge (by omega) (by omega)
    rw [v_162_87]
    simp only [z10, z00, not_true_eq_false, not_false_eq_true, false_implies, true_implies, implies_true, nI_1, Int32.add_zero, true_or, or_true, true_and, and_true, eI_eq, eL_eq, eR_eq, eV_eq, lg_cmp_ge, lg_cmp_le, lg_cmp_gt, lg_cmp_lt, lg_cmp_eq, v_162_88, v_162_89, v_162_92, v_162_95, v_162_96, v_162_97, v_162_98, v_162_101, v_162_104, v_162_105, v_162_108, v_162_109, v_162_110, v_162_111, v_162_114, v_162_117, v_162_118, hM.o, hM.n, hle]
    refine M_isPair hM (by omega) ?_
    have e : c + cnt (paB σ S) k (n + 1) = (c + if paB σ S k then 1 else 0) + cnt (paB σ S) (k + 1) n := by rw [cnt, Nat.add_assoc]
    rw [e] at h
    cases hp : paB σ S k with
    | true =>
      simp only [bI, if_true, z10, z00, not_true_eq_false, not_false_eq_true, false_implies, true_implies, implies_true, true_and, and_true, true_or, or_true, false_and, and_false, false_or, or_false, nI_1]
      exact ih (k + 1) (c + 1) (by omega) (by simpa [hp] using h)
    | false =>
      simp only [bI, Bool.false_eq_true, if_false, z10, z00, not_true_eq_false, not_false_eq_true, false_implies, true_implies, implies_true, true_and, and_true, true_or, or_true, false_and, and_false, false_or, or_false, Int32.add_zero]
      exact ih (k + 1) c (by omega) (by simpa [hp] using h)
theorem M_count7 {b : B3} {σ : Sto} {K : Int32 → Sto → Prop} {S : Nat} (hM : MB σ S) {x : Int32} : ∀ (n k c : Nat), k + n = 20 → K (nI (c + cnt (fun t => decide (gi σ 78 t = 1)) k n)) σ → Ev b 162 134 [aR (some 68), aI x, aI (nI c), aI (nI k)] [] σ (eI K) := by
  intro n
  induction n with
  | zero =>
    intro k c hk h
    have hk' : k = 20 := by omega
    subst hk'
    have hle : (20 : Int32) ≤ nI 20 := by decide
    rw [v_162_134]
    simp only [z10, z00, not_true_eq_false, not_false_eq_true, false_implies, true_implies, implies_true, nI_1, Int32.add_zero, true_or, or_true, true_and, and_true, eI_eq, eL_eq, eR_eq, eV_eq, lg_cmp_ge, lg_cmp_le, lg_cmp_gt, lg_cmp_lt, lg_cmp_eq, v_162_135, v_162_137, v_162_140, v_162_141, v_162_142, v_162_145, v_162_146, v_162_147, v_162_148, v_162_151, v_162_152, v_162_155, v_162_156, v_162_157, v_162_158, v_162_161, v_162_164, v_162_165, hle]
    exact h
  | succ n ih =>
    intro k c hk h
    have hle : ¬ (20 : Int32) ≤ nI k := nI_ge (b := 20) (a := k) (by omega) (by omega)
    have hc : (nI k).toNatClampNeg = k := nI_clamp (by omega)
    rw [v_162_134]
    simp only [z10, z00, not_true_eq_false, not_false_eq_true, false_implies, true_implies, implies_true, nI_1, Int32.add_zero, true_or, or_true, true_and, and_true, eI_eq, eL_eq, eR_eq, eV_eq, lg_cmp_ge, lg_cmp_le, lg_cmp_gt, lg_cmp_lt, lg_cmp_eq, v_162_135, v_162_137, v_162_140, v_162_141, v_162_142, v_162_145, v_162_146, v_162_147, v_162_148, v_162_151, v_162_152, v_162_155, v_162_156, v_162_157, v_162_158, v_162_161, v_162_164, v_162_165, hM.o, hM.r10, hM.x78 (k := k) (by omega), hc, hle]
    have e : c + cnt (fun t => decide (gi σ 78 t = 1)) k (n + 1) = (c + if decide (gi σ 78 k = 1) then 1 else 0) + cnt (fun t => decide (gi σ 78 t = 1)) (k + 1) n := by rw [cnt, Nat.add_assoc]
    rw [e] at h
    exact ⟨fun g => ih (k + 1) c (by omega) (by simpa [g] using h), fun g => ih (k + 1) (c + 1) (by omega) (by simpa [g] using h)⟩
theorem M_count {d : Nat} {σ : Sto} {K : Int32 → Sto → Prop} {S : Nat} (hM : MB σ S) (hV : ∀ k, k < S → okV (rwM σ k)) {w : Int32} (h : ∀ σ2, sc4 σ σ2 → K (ctA σ S w) σ2) : CI (d + 5) 162 [aR (some 68), aI w] σ K := by
  have h' := h σ (sc4.rfl σ)
  refine CI_of ?_
  show Ev (d + 5, 0, 0) 162 0 [aR (some 68), aI w, aU, aU] [] σ _
  simp only [v_162_0, v_162_1, v_162_2]
  by_cases hw : 0 ≤ w.toInt ∧ w.toInt ≤ 10
  · have hcase : w = 0 ∨ w = 1 ∨ w = 2 ∨ w = 3 ∨ w = 4 ∨ w = 5 ∨ w = 6 ∨ w = 7 ∨ w = 8 ∨ w = 9 ∨ w = 10 := by
      obtain ⟨j, hj, ej⟩ := nI_of2 (x := w) (n := 10) (M := 10) (by decide) (fun q => by have := Int32.lt_iff_toInt_lt.mp q; have b1 : (0 : Int32).toInt = 0 := by decide
                                                                                         omega) (Int32.le_iff_toInt_le.mpr (by have b1 : (10 : Int32).toInt = 10 := by decide
                                                                                                                               omega))
      have : j = 0 ∨ j = 1 ∨ j = 2 ∨ j = 3 ∨ j = 4 ∨ j = 5 ∨ j = 6 ∨ j = 7 ∨ j = 8 ∨ j = 9 ∨ j = 10 := by omega
      rcases this with e | e | e | e | e | e | e | e | e | e | e <;> subst e <;> subst ej <;> decide
    rcases hcase with rfl | rfl | rfl | rfl | rfl | rfl | rfl | rfl | rfl | rfl | rfl
    · simp only [v_162_3_0, z10, z00, not_true_eq_false, not_false_eq_true, false_implies, true_implies, implies_true, nI_1, Int32.add_zero, true_or, or_true, true_and, and_true, eI_eq, eL_eq, eR_eq, eV_eq, lg_cmp_ge, lg_cmp_le, lg_cmp_gt, lg_cmp_lt, lg_cmp_eq, v_162_60, v_162_61, v_162_64, hM.o, hM.n]; exact h'
    · simp only [v_162_3_1, z10, z00, not_true_eq_false, not_false_eq_true, false_implies, true_implies, implies_true, nI_1, Int32.add_zero, true_or, or_true, true_and, and_true, eI_eq, eL_eq, eR_eq, eV_eq, lg_cmp_ge, lg_cmp_le, lg_cmp_gt, lg_cmp_lt, lg_cmp_eq, v_162_65, v_162_66, v_162_69, hM.o]; exact h'
    · simp only [v_162_3_2, z10, z00, not_true_eq_false, not_false_eq_true, false_implies, true_implies, implies_true, nI_1, Int32.add_zero, true_or, or_true, true_and, and_true, eI_eq, eL_eq, eR_eq, eV_eq, lg_cmp_ge, lg_cmp_le, lg_cmp_gt, lg_cmp_lt, lg_cmp_eq, v_162_70, v_162_71, v_162_74, hM.o]; exact h'
    · simp only [v_162_3_3, z10, z00, not_true_eq_false, not_false_eq_true, false_implies, true_implies, implies_true, nI_1, Int32.add_zero, true_or, or_true, true_and, and_true, eI_eq, eL_eq, eR_eq, eV_eq, lg_cmp_ge, lg_cmp_le, lg_cmp_gt, lg_cmp_lt, lg_cmp_eq, v_162_75, v_162_76, v_162_79, hM.o]; exact h'
    · simp only [v_162_3_4, z10, z00, not_true_eq_false, not_false_eq_true, false_implies, true_implies, implies_true, nI_1, Int32.add_zero, true_or, or_true, true_and, and_true, eI_eq, eL_eq, eR_eq, eV_eq, lg_cmp_ge, lg_cmp_le, lg_cmp_gt, lg_cmp_lt, lg_cmp_eq, v_162_80, v_162_81, v_162_84, hM.o]; exact h'
    · simp only [v_162_3_5, z10, z00, not_true_eq_false, not_false_eq_true, false_implies, true_implies, implies_true, nI_1, Int32.add_zero, true_or, or_true, true_and, and_true, eI_eq, eL_eq, eR_eq, eV_eq, lg_cmp_ge, lg_cmp_le, lg_cmp_gt, lg_cmp_lt, lg_cmp_eq, v_162_85, v_162_86]
      exact M_count5 (d := d + 2) hM S 0 0 (by omega) (by rw [Nat.zero_add]; exact h')
    · simp only [v_162_3_6, z10, z00, not_true_eq_false, not_false_eq_true, false_implies, true_implies, implies_true, nI_1, Int32.add_zero, true_or, or_true, true_and, and_true, eI_eq, eL_eq, eR_eq, eV_eq, lg_cmp_ge, lg_cmp_le, lg_cmp_gt, lg_cmp_lt, lg_cmp_eq, v_162_119, v_162_120, v_162_123, v_162_126, v_162_127, v_162_130, v_162_131, hM.o]
      refine M_agree hM hV (fun σ2 q1 q2 q3 => ?_)
      have h := h σ2 q1
      have e : ctA σ S 6 = bI (agB (fwA (bdA σ S))) := by
        unfold ctA
        rw [if_neg (by decide), if_neg (by decide), if_neg (by decide), if_neg (by decide), if_neg (by decide), if_neg (by decide), if_pos (by decide)]
      rw [e] at h
      cases hag : agB (fwA (bdA σ S)) with
      | true => simp only [bI, if_true, z10, z00, not_true_eq_false, not_false_eq_true, false_implies, true_implies, implies_true, true_and, and_true, true_or, or_true, false_and, and_false, false_or, or_false]; rw [hag] at h; exact h
      | false => simp only [bI, Bool.false_eq_true, if_false, z10, z00, not_true_eq_false, not_false_eq_true, false_implies, true_implies, implies_true, true_and, and_true, true_or, or_true, false_and, and_false, false_or, or_false]; rw [hag] at h; exact h
    · simp only [v_162_3_7, z10, z00, not_true_eq_false, not_false_eq_true, false_implies, true_implies, implies_true, nI_1, Int32.add_zero, true_or, or_true, true_and, and_true, eI_eq, eL_eq, eR_eq, eV_eq, lg_cmp_ge, lg_cmp_le, lg_cmp_gt, lg_cmp_lt, lg_cmp_eq, v_162_132, v_162_133]
      exact M_count7 hM 20 0 0 (by omega) (by rw [Nat.zero_add]; exact h')
    · simp only [v_162_3_8, z10, z00, not_true_eq_false, not_false_eq_true, false_implies, true_implies, implies_true, nI_1, Int32.add_zero, true_or, or_true, true_and, and_true, eI_eq, eL_eq, eR_eq, eV_eq, lg_cmp_ge, lg_cmp_le, lg_cmp_gt, lg_cmp_lt, lg_cmp_eq, v_162_166, v_162_167, v_162_170, hM.o]; exact h'
    · simp only [v_162_3_9, z10, z00, not_true_eq_false, not_false_eq_true, false_implies, true_implies, implies_true, nI_1, Int32.add_zero, true_or, or_true, true_and, and_true, eI_eq, eL_eq, eR_eq, eV_eq, lg_cmp_ge, lg_cmp_le, lg_cmp_gt, lg_cmp_lt, lg_cmp_eq, v_162_171, v_162_172, v_162_175, hM.o]; exact h'
    · simp only [v_162_3_10, z10, z00, not_true_eq_false, not_false_eq_true, false_implies, true_implies, implies_true, nI_1, Int32.add_zero, true_or, or_true, true_and, and_true, eI_eq, eL_eq, eR_eq, eV_eq, lg_cmp_ge, lg_cmp_le, lg_cmp_gt, lg_cmp_lt, lg_cmp_eq, v_162_176, v_162_177, v_162_180, hM.o]
      exact M_tries hM h'
  · rw [v_162_3_d (hx := sw_out hw)]
    simp only [v_162_181, v_162_182, eI_eq]
    have n0 : ∀ (y : Int32), 0 ≤ y.toInt ∧ y.toInt ≤ 10 → ¬ w = y := fun y hy e => hw (by rw [e]; exact hy)
    simpa [ctA, n0 0 (by decide), n0 1 (by decide), n0 2 (by decide), n0 3 (by decide), n0 4 (by decide), n0 5 (by decide), n0 6 (by decide), n0 7 (by decide), n0 8 (by decide), n0 9 (by decide), n0 10 (by decide)] using h'
/-- what is told is good -/
def gdR (t n p v c x : Int32) (b e : Int64) : Prop := ¬ t < 0 ∧ ¬ 20 ≤ t ∧ ¬ n < 1 ∧ ¬ 999 < n ∧ ¬ p < 0 ∧ ¬ 999 < p ∧ ¬ v < 0 ∧ ¬ 6 ≤ v ∧ ¬ c < 0 ∧ ¬ 8 ≤ c ∧ ¬ x < 0 ∧ ¬ 12 < x ∧ ¬ 4 < x - x / 8 * 8 ∧ ¬ b < 0 ∧ ¬ e < b ∧ ¬ 1000000000 < e
def orD (a b : Int64) : Int64 := if a = 0 then b else a
/-- how a row compares with another -/
def dR (r q : Rw) : Int64 := orD ((rP r).toInt64 - (rP q).toInt64) (orD (rV r - rV q).toInt64 (orD (rC r - rC q).toInt64 (orD (rK r - rK q).toInt64 (orD (rF r - rF q).toInt64 (orD (rB r - rB q) (rE r - rE q))))))
theorem M_report1 {d : Nat} {σ : Sto} {K : Int32 → Sto → Prop} {S k : Nat} (hM : MB σ S) (hk : k < S) {t n p v c x : Int32} {b e : Int64} (h0 : dR (t, n, p, v, c, x - x / 8 * 8, x / 8, b, e) (rwM σ k) = 0 → K 0 (si σ 68 13 (gi σ 68 13 + 1))) (h2 : dR (t, n, p, v, c, x - x / 8 * 8, x / 8, b, e) (rwM σ k) < 0 → K 2 (stM (si σ 68 14 (gi σ 68 14 + 1)) k (t, n, p, v, c, x - x / 8 * 8, x / 8, b, e))) (h3 : 0 < dR (t, n, p, v, c, x - x / 8 * 8, x / 8, b, e) (rwM σ k) → K 3 (si σ 68 14 (gi σ 68 14 + 1))) : Ev (d + 1, 0, 0) 110 144 [aR (some 68), aI t, aI n, aI p, aI v, aI c, aI x, aL b, aU, aL e, aU, aI 1, aI (nI k), aU, aU] [] σ (eI K) := by
  have hS := hM.c
  have hc : (nI k).toNatClampNeg = k := nI_clamp (by omega)
  have z8 : ((8 : Int32) = 0) = False := eq_false (by decide)
  generalize hD : dR (t, n, p, v, c, x - x / 8 * 8, x / 8, b, e) (rwM σ k) = D at h0 h2 h3
  have s7 : Ev (d + 1, 0, 0) 110 281 [aR (some 68), aI t, aI n, aI p, aI v, aI c, aI x, aL b, aU, aL e, aU, aI 1, aI (nI k), aL D, aU] [] σ (eI K) := by
    simp only [z10, z00, not_true_eq_false, not_false_eq_true, false_implies, true_implies, implies_true, nI_1, Int32.add_zero, true_or, or_true, true_and, and_true, eI_eq, eL_eq, eR_eq, eV_eq, lg_cmp_ge, lg_cmp_le, lg_cmp_gt, lg_cmp_lt, lg_cmp_eq, v_110_281, v_110_283, v_110_284, v_110_285, v_110_288, v_110_289, v_110_290, v_110_293, v_110_294, v_110_295, v_110_298, v_110_299, v_110_300, v_110_301, v_110_302, v_110_305, v_110_306, v_110_307, v_110_310, v_110_312, v_110_313, v_110_314, v_110_317, v_110_318, v_110_320, v_110_321, v_110_322, v_110_323, v_110_325, v_110_327, v_110_329, v_110_331, v_110_333, v_110_336, v_110_338, v_110_339, v_110_340, v_110_343, v_110_344, v_110_347, v_110_348, hM.o, okO_si]
    refine ⟨fun g => ⟨fun g2 => ⟨fun g3 => ?_, fun g3 => absurd g2 g3⟩, fun g2 => ?_⟩, fun g => h0 g⟩
    · exact h3 (Int64.lt_of_le_of_ne g2 (fun q => g q.symm))
    · have hM1 : MB (si σ 68 14 (gi σ 68 14 + 1)) S := hM
      exact M_set hM1 (by omega) ⟨fun g3 => absurd g3 g2, fun g3 => h2 (Int64.not_le.mp g2)⟩
  have s6 : ∀ E, orD E (e - gl σ 77 k) = D → Ev (d + 1, 0, 0) 110 262 [aR (some 68), aI t, aI n, aI p, aI v, aI c, aI x, aL b, aU, aL e, aU, aI 1, aI (nI k), aL E, aU] [] σ (eI K) := by
    intro E hE
    simp only [z10, z00, not_true_eq_false, not_false_eq_true, false_implies, true_implies, implies_true, nI_1, Int32.add_zero, true_or, or_true, true_and, and_true, eI_eq, eL_eq, eR_eq, eV_eq, lg_cmp_ge, lg_cmp_le, lg_cmp_gt, lg_cmp_lt, lg_cmp_eq, v_110_262, v_110_264, v_110_265, v_110_266, v_110_269, v_110_271, v_110_272, v_110_275, v_110_277, v_110_278, v_110_279, hM.o, hM.r9, hM.a77 (k := k) (by omega), hc]
    refine ⟨fun g => ?_, fun g => ?_⟩
    · rw [orD, if_neg g] at hE; rw [hE]; exact s7
    · rw [orD, if_pos g] at hE; rw [hE]; exact s7
  have s5 : ∀ E, orD E (orD (b - gl σ 76 k) (e - gl σ 77 k)) = D → Ev (d + 1, 0, 0) 110 243 [aR (some 68), aI t, aI n, aI p, aI v, aI c, aI x, aL b, aU, aL e, aU, aI 1, aI (nI k), aL E, aU] [] σ (eI K) := by
    intro E hE
    simp only [z10, z00, not_true_eq_false, not_false_eq_true, false_implies, true_implies, implies_true, nI_1, Int32.add_zero, true_or, or_true, true_and, and_true, eI_eq, eL_eq, eR_eq, eV_eq, lg_cmp_ge, lg_cmp_le, lg_cmp_gt, lg_cmp_lt, lg_cmp_eq, v_110_243, v_110_245, v_110_246, v_110_247, v_110_250, v_110_252, v_110_253, v_110_256, v_110_258, v_110_259, v_110_260, hM.o, hM.r8, hM.a76 (k := k) (by omega), hc]
    refine ⟨fun g => ?_, fun g => ?_⟩
    · rw [orD, if_neg g] at hE; exact s6 E (by rw [orD, if_neg g]; exact hE)
    · rw [orD, if_pos g] at hE; exact s6 _ hE
  have s4 : ∀ E, orD E (orD (x / 8 - gi σ 75 k).toInt64 (orD (b - gl σ 76 k) (e - gl σ 77 k))) = D → Ev (d + 1, 0, 0) 110 220 [aR (some 68), aI t, aI n, aI p, aI v, aI c, aI x, aL b, aU, aL e, aU, aI 1, aI (nI k), aL E, aU] [] σ (eI K) := by
    intro E hE
    simp only [z10, z00, not_true_eq_false, not_false_eq_true, false_implies, true_implies, implies_true, nI_1, Int32.add_zero, true_or, or_true, true_and, and_true, eI_eq, eL_eq, eR_eq, eV_eq, lg_cmp_ge, lg_cmp_le, lg_cmp_gt, lg_cmp_lt, lg_cmp_eq, v_110_220, v_110_222, v_110_223, v_110_224, v_110_227, v_110_229, v_110_231, v_110_232, v_110_233, v_110_236, v_110_238, v_110_239, v_110_240, v_110_241, hM.o, hM.r7, hM.x75 (k := k) (by omega), hc, z8]
    refine ⟨fun g => ?_, fun g => ?_⟩
    · rw [orD, if_neg g] at hE; exact s5 E (by rw [orD, if_neg g]; exact hE)
    · rw [orD, if_pos g] at hE; exact s5 _ hE
  have s3 : ∀ E, orD E (orD (x - x / 8 * 8 - gi σ 74 k).toInt64 (orD (x / 8 - gi σ 75 k).toInt64 (orD (b - gl σ 76 k) (e - gl σ 77 k)))) = D → Ev (d + 1, 0, 0) 110 197 [aR (some 68), aI t, aI n, aI p, aI v, aI c, aI x, aL b, aU, aL e, aU, aI 1, aI (nI k), aL E, aU] [] σ (eI K) := by
    intro E hE
    simp only [z10, z00, not_true_eq_false, not_false_eq_true, false_implies, true_implies, implies_true, nI_1, Int32.add_zero, true_or, or_true, true_and, and_true, eI_eq, eL_eq, eR_eq, eV_eq, lg_cmp_ge, lg_cmp_le, lg_cmp_gt, lg_cmp_lt, lg_cmp_eq, v_110_197, v_110_199, v_110_200, v_110_201, v_110_204, v_110_206, v_110_208, v_110_209, v_110_210, v_110_213, v_110_215, v_110_216, v_110_217, v_110_218, hM.o, hM.r6, hM.x74 (k := k) (by omega), hc, z8]
    refine ⟨fun g => ?_, fun g => ?_⟩
    · rw [orD, if_neg g] at hE; exact s4 E (by rw [orD, if_neg g]; exact hE)
    · rw [orD, if_pos g] at hE; exact s4 _ hE
  have s2 : ∀ E, orD E (orD (c - gi σ 73 k).toInt64 (orD (x - x / 8 * 8 - gi σ 74 k).toInt64 (orD (x / 8 - gi σ 75 k).toInt64 (orD (b - gl σ 76 k) (e - gl σ 77 k))))) = D → Ev (d + 1, 0, 0) 110 177 [aR (some 68), aI t, aI n, aI p, aI v, aI c, aI x, aL b, aU, aL e, aU, aI 1, aI (nI k), aL E, aU] [] σ (eI K) := by
    intro E hE
    simp only [z10, z00, not_true_eq_false, not_false_eq_true, false_implies, true_implies, implies_true, nI_1, Int32.add_zero, true_or, or_true, true_and, and_true, eI_eq, eL_eq, eR_eq, eV_eq, lg_cmp_ge, lg_cmp_le, lg_cmp_gt, lg_cmp_lt, lg_cmp_eq, v_110_177, v_110_179, v_110_180, v_110_181, v_110_184, v_110_186, v_110_187, v_110_190, v_110_192, v_110_193, v_110_194, v_110_195, hM.o, hM.r5, hM.x73 (k := k) (by omega), hc]
    refine ⟨fun g => ?_, fun g => ?_⟩
    · rw [orD, if_neg g] at hE; exact s3 E (by rw [orD, if_neg g]; exact hE)
    · rw [orD, if_pos g] at hE; exact s3 _ hE
  simp only [z10, z00, not_true_eq_false, not_false_eq_true, false_implies, true_implies, implies_true, nI_1, Int32.add_zero, true_or, or_true, true_and, and_true, eI_eq, eL_eq, eR_eq, eV_eq, lg_cmp_ge, lg_cmp_le, lg_cmp_gt, lg_cmp_lt, lg_cmp_eq, v_110_144, v_110_145, v_110_146, v_110_147, v_110_150, v_110_152, v_110_153, v_110_154, v_110_155, v_110_157, v_110_159, v_110_160, v_110_161, v_110_164, v_110_166, v_110_167, v_110_170, v_110_172, v_110_173, v_110_174, v_110_175, hM.o, hM.r3, hM.r4, hM.x71 (k := k) (by omega), hM.x72 (k := k) (by omega), hc]
  have hD : orD (p.toInt64 - (gi σ 71 k).toInt64) (orD (v - gi σ 72 k).toInt64 (orD (c - gi σ 73 k).toInt64 (orD (x - x / 8 * 8 - gi σ 74 k).toInt64 (orD (x / 8 - gi σ 75 k).toInt64 (orD (b - gl σ 76 k) (e - gl σ 77 k)))))) = D := hD
  refine ⟨fun g => ?_, fun g => ?_⟩
  · rw [orD, if_neg g] at hD; exact s2 _ (by rw [orD, if_neg g]; exact hD)
  · rw [orD, if_pos g] at hD; exact s2 _ hD
theorem M_report2 {d : Nat} {σ : Sto} {K : Int32 → Sto → Prop} {S : Nat} (hM : MB σ S) {t n p v c x : Int32} {b e : Int64} {u : Int32} (hs : ¬ t < 0) (ht : ¬ 20 ≤ t) (hF : (S = 200 ∨ (rws σ 0 S).countP (fun r => decide (rT r = t)) = 30) → K (-4) σ) (hN : S < 200 → ¬ (rws σ 0 S).countP (fun r => decide (rT r = t)) = 30 → K 1 (si (stM σ S (t, n, p, v, c, x - x / 8 * 8, x / 8, b, e)) 68 0 (nI (S + 1)))) : Ev (d + 2, 0, 0) 110 349 [aR (some 68), aI t, aI n, aI p, aI v, aI c, aI x, aL b, aU, aL e, aU, aI 1, aI u, aU, aU] [] σ (eI K) := by
  have hS := hM.c
  have e200 : nI S = 200 ↔ S = 200 := nI_eq (b := 200) (by omega) (by omega)
  simp only [z10, z00, not_true_eq_false, not_false_eq_true, false_implies, true_implies, implies_true, nI_1, Int32.add_zero, true_or, or_true, true_and, and_true, eI_eq, eL_eq, eR_eq, eV_eq, lg_cmp_ge, lg_cmp_le, lg_cmp_gt, lg_cmp_lt, lg_cmp_eq, v_110_349, v_110_350, v_110_353, v_110_356, v_110_359, v_110_360, v_110_361, v_110_364, v_110_366, v_110_369, v_110_371, v_110_372, v_110_373, v_110_374, v_110_377, v_110_378, v_110_379, v_110_380, v_110_382, v_110_384, v_110_386, v_110_388, v_110_390, v_110_393, v_110_394, v_110_395, v_110_398, v_110_399, v_110_400, v_110_403, v_110_404, hM.o, hM.n, e200]
  refine ⟨fun g => hF (Or.inl g), fun g => ?_⟩
  have hcl : (rws σ 0 S).countP (fun r => decide (rT r = t)) ≤ S := by
    have := List.countP_le_length (p := fun r => decide (rT r = t)) (l := rws σ 0 S)
    rwa [rws_len] at this
  refine M_spans hM (fun q => (q.elim hs ht).elim) (fun _ _ => ?_)
  have e30 : nI ((rws σ 0 S).countP (fun r => decide (rT r = t))) = 30 ↔ (rws σ 0 S).countP (fun r => decide (rT r = t)) = 30 := nI_eq (b := 30) (by omega) (by omega)
  simp only [e30, hM.o, hM.n, z10, z00, not_true_eq_false, not_false_eq_true, false_implies, true_implies, implies_true, true_and, and_true, true_or, or_true, false_and, and_false, false_or, or_false]
  refine ⟨fun g2 => M_set hM (by omega) ?_, fun g2 => hF (Or.inr g2)⟩
  have hM1 : MB (stM σ S (t, n, p, v, c, x - x / 8 * 8, x / 8, b, e)) S := hM
  simp only [hM1.o, hM1.n, z10, z00, not_true_eq_false, not_false_eq_true, false_implies, true_implies, implies_true, true_and, and_true, true_or, or_true, false_and, and_false, false_or, or_false, nI_1]
  exact hN (by omega) g2
theorem M_report {d : Nat} {σ : Sto} {K : Int32 → Sto → Prop} {S : Nat} (hM : MB σ S) {t n p v c x : Int32} {b e : Int64} (hB : ¬ gdR t n p v c x b e → K (-2) σ) (h : gdR t n p v c x b e → ∀ j, j < 20 → t = nI j → (0 < gi σ 78 j → K (-3) (si σ 68 16 (gi σ 68 16 + 1))) ∧ (¬ 0 < gi σ 78 j → (fIx (key t n) 0 (rws σ 0 S) = none → ((S = 200 ∨ (rws σ 0 S).countP (fun r => decide (rT r = t)) = 30) → K (-4) σ) ∧ (S < 200 → ¬ (rws σ 0 S).countP (fun r => decide (rT r = t)) = 30 → K 1 (si (stM σ S (t, n, p, v, c, x - x / 8 * 8, x / 8, b, e)) 68 0 (nI (S + 1))))) ∧ (∀ k, fIx (key t n) 0 (rws σ 0 S) = some k → k < S → (dR (t, n, p, v, c, x - x / 8 * 8, x / 8, b, e) (rwM σ k) = 0 → K 0 (si σ 68 13 (gi σ 68 13 + 1))) ∧ (dR (t, n, p, v, c, x - x / 8 * 8, x / 8, b, e) (rwM σ k) < 0 → K 2 (stM (si σ 68 14 (gi σ 68 14 + 1)) k (t, n, p, v, c, x - x / 8 * 8, x / 8, b, e))) ∧ (0 < dR (t, n, p, v, c, x - x / 8 * 8, x / 8, b, e) (rwM σ k) → K 3 (si σ 68 14 (gi σ 68 14 + 1)))))) : CI (d + 2) 110 [aR (some 68), aI t, aI n, aI p, aI v, aI c, aI x, aL b, aL e] σ K := by
  have z8 : ((8 : Int32) = 0) = False := eq_false (by decide)
  refine CI_of ?_
  show Ev (d + 2, 0, 0) 110 0 [aR (some 68), aI t, aI n, aI p, aI v, aI c, aI x, aL b, aU, aL e, aU, aU, aU, aU, aU] [] σ _
  have bad : ∀ u, (u = 0 ∨ True) → ¬ gdR t n p v c x b e → u = (0 : Int32) → Ev (d + 2, 0, 0) 110 77 [aR (some 68), aI t, aI n, aI p, aI v, aI c, aI x, aL b, aU, aL e, aU, aI u, aU, aU, aU] [] σ (eI K) := by
    intro u _ hb e
    subst e
    simp only [z10, z00, not_true_eq_false, not_false_eq_true, false_implies, true_implies, implies_true, nI_1, Int32.add_zero, true_or, or_true, true_and, and_true, eI_eq, eL_eq, eR_eq, eV_eq, lg_cmp_ge, lg_cmp_le, lg_cmp_gt, lg_cmp_lt, lg_cmp_eq, v_110_77, v_110_79, v_110_82, v_110_84, v_110_85, v_110_86, v_110_89, v_110_91, v_110_93, v_110_94, v_110_97, v_110_99, v_110_102, v_110_103, v_110_106, v_110_108]
    exact hB hb
  simp only [z10, z00, not_true_eq_false, not_false_eq_true, false_implies, true_implies, implies_true, nI_1, Int32.add_zero, true_or, or_true, true_and, and_true, eI_eq, eL_eq, eR_eq, eV_eq, lg_cmp_ge, lg_cmp_le, lg_cmp_gt, lg_cmp_lt, lg_cmp_eq, v_110_0, v_110_1, v_110_2, v_110_5, v_110_8, v_110_9, v_110_10, v_110_13, v_110_14, v_110_17, v_110_20, v_110_21, v_110_24, v_110_25, v_110_28, v_110_31, v_110_32, v_110_34, v_110_37, v_110_40, v_110_41, v_110_43, v_110_46, v_110_49, v_110_51, v_110_54, v_110_56, v_110_58, v_110_61, v_110_63, v_110_65, v_110_66, v_110_67, v_110_70, v_110_71, v_110_74, v_110_75, hM.o]
  refine M_isTrace (fun q => ?_) (fun c1 c2 => ?_)
  · simp only [z10, z00, not_true_eq_false, not_false_eq_true, false_implies, true_implies, implies_true, true_and, and_true, true_or, or_true, false_and, and_false, false_or, or_false]
    exact bad 0 (Or.inl rfl) (fun g => q.elim g.1 g.2.1) rfl
  simp only [z10, z00, not_true_eq_false, not_false_eq_true, false_implies, true_implies, implies_true, true_and, and_true, true_or, or_true, false_and, and_false, false_or, or_false]
  refine ⟨fun q => bad 0 (Or.inl rfl) (fun g => g.2.2.1 q) rfl, fun c3 => ⟨fun q => bad 0 (Or.inl rfl) (fun g => g.2.2.2.1 q) rfl, fun c4 => ⟨fun q => bad 0 (Or.inl rfl) (fun g => g.2.2.2.2.1 q) rfl, fun c5 => ⟨fun q => bad 0 (Or.inl rfl) (fun g => g.2.2.2.2.2.1 q) rfl, fun c6 => ?_⟩⟩⟩⟩
  refine ⟨hM.o, M_isService (fun q => ?_) (fun c7 c8 => ?_)⟩
  · simp only [z10, z00, not_true_eq_false, not_false_eq_true, false_implies, true_implies, implies_true, true_and, and_true, true_or, or_true, false_and, and_false, false_or, or_false]
    exact bad 0 (Or.inl rfl) (fun g => q.elim g.2.2.2.2.2.2.1 g.2.2.2.2.2.2.2.1) rfl
  simp only [z10, z00, not_true_eq_false, not_false_eq_true, false_implies, true_implies, implies_true, true_and, and_true, true_or, or_true, false_and, and_false, false_or, or_false, hM.o]
  refine M_isAct (fun q => ?_) (fun c9 c10 => ?_)
  · simp only [z10, z00, not_true_eq_false, not_false_eq_true, false_implies, true_implies, implies_true, true_and, and_true, true_or, or_true, false_and, and_false, false_or, or_false]
    exact bad 0 (Or.inl rfl) (fun g => q.elim g.2.2.2.2.2.2.2.2.1 g.2.2.2.2.2.2.2.2.2.1) rfl
  simp only [z10, z00, not_true_eq_false, not_false_eq_true, false_implies, true_implies, implies_true, true_and, and_true, true_or, or_true, false_and, and_false, false_or, or_false, z8]
  refine ⟨fun q => bad 0 (Or.inl rfl) (fun g => g.2.2.2.2.2.2.2.2.2.2.1 q) rfl, fun c11 => ⟨fun q => bad 0 (Or.inl rfl) (fun g => g.2.2.2.2.2.2.2.2.2.2.2.1 q) rfl, fun c12 => ?_⟩⟩
  refine ⟨fun q => bad 0 (Or.inl rfl) (fun g => g.2.2.2.2.2.2.2.2.2.2.2.2.1 q) rfl, fun c13 => ?_⟩
  simp only [z10, z00, not_true_eq_false, not_false_eq_true, false_implies, true_implies, implies_true, nI_1, Int32.add_zero, true_or, or_true, true_and, and_true, eI_eq, eL_eq, eR_eq, eV_eq, lg_cmp_ge, lg_cmp_le, lg_cmp_gt, lg_cmp_lt, lg_cmp_eq, v_110_77, v_110_79, v_110_82, v_110_84, v_110_85, v_110_86, v_110_89, v_110_91, v_110_93, v_110_94, v_110_97, v_110_99, v_110_102, v_110_103, v_110_106, v_110_108, v_110_109, v_110_110, v_110_113, v_110_114, v_110_115, v_110_118, v_110_119, v_110_120, v_110_123, v_110_124, v_110_125, v_110_128, v_110_130, v_110_131, v_110_132, v_110_133, v_110_134, v_110_137, v_110_139, v_110_141, hM.o]
  refine ⟨fun q => hB (fun g => g.2.2.2.2.2.2.2.2.2.2.2.2.2.1 q), fun c14 => ⟨fun q => hB (fun g => g.2.2.2.2.2.2.2.2.2.2.2.2.2.2.1 q), fun c15 => ⟨fun c16 => ?_, fun q => hB (fun g => g.2.2.2.2.2.2.2.2.2.2.2.2.2.2.2 (Int64.not_le.mp q))⟩⟩⟩
  obtain ⟨j, hj, ej⟩ := ix_of (n := 20) (by decide) c1 c2
  have hcj : (nI j).toNatClampNeg = j := nI_clamp (by omega)
  obtain ⟨h1, h2⟩ := h ⟨c1, c2, c3, c4, c5, c6, c7, c8, c9, c10, c11, c12, c13, c14, c15, Int64.not_lt.mpr c16⟩ j hj ej
  subst ej
  simp only [z10, z00, not_true_eq_false, not_false_eq_true, false_implies, true_implies, implies_true, nI_1, Int32.add_zero, true_or, or_true, true_and, and_true, eI_eq, eL_eq, eR_eq, eV_eq, lg_cmp_ge, lg_cmp_le, lg_cmp_gt, lg_cmp_lt, lg_cmp_eq, v_110_77, v_110_79, v_110_82, v_110_84, v_110_85, v_110_86, v_110_89, v_110_91, v_110_93, v_110_94, v_110_97, v_110_99, v_110_102, v_110_103, v_110_106, v_110_108, v_110_109, v_110_110, v_110_113, v_110_114, v_110_115, v_110_118, v_110_119, v_110_120, v_110_123, v_110_124, v_110_125, v_110_128, v_110_130, v_110_131, v_110_132, v_110_133, v_110_134, v_110_137, v_110_139, v_110_141, hM.o, hM.r10, hM.x78 (k := j) hj, hcj, okO_si, z10, z00, not_true_eq_false, not_false_eq_true, false_implies, true_implies, implies_true, true_and, and_true, true_or, or_true, false_and, and_false, false_or, or_false]
  refine ⟨fun g => M_find hM ?_, fun g => h1 (Int32.not_le.mp g)⟩
  obtain ⟨h3, h4⟩ := h2 (Int32.not_lt.mpr g)
  cases hf : fIx (key (nI j) n) 0 (rws σ 0 S) with
  | none =>
    have c0 : ofN none < 0 := by decide
    simp only [c0, z10, z00, not_true_eq_false, not_false_eq_true, false_implies, true_implies, implies_true, true_and, and_true, true_or, or_true, false_and, and_false, false_or, or_false]
    exact M_report2 hM c1 c2 (h3 hf).1 (h3 hf).2
  | some k =>
    have hk : k < S := by have := fIx_lt _ _ _ _ hf; rw [rws_len] at this; omega
    have hS := hM.c
    have c0 : ¬ ofN (some k) < 0 := nI_pos (by omega)
    simp only [c0, z10, z00, not_true_eq_false, not_false_eq_true, false_implies, true_implies, implies_true, true_and, and_true, true_or, or_true, false_and, and_false, false_or, or_false]
    exact M_report1 hM hk (h4 k hf hk).1 (h4 k hf hk).2.1 (h4 k hf hk).2.2
