/-! the reference: trace, and the clocks -/
theorem ix_of {t : Int32} {n : Nat} (hn : n < 2 ^ 31) (h0 : ¬ t < 0) (h1 : ¬ nI n ≤ t) : ∃ j, j < n ∧ t = nI j := by
  rcases pk_ix t hn with h | h | h
  · exact absurd h h0
  · exact absurd h h1
  · exact h
theorem M_trace {d : Nat} {σ : Sto} {t w : Int32} {K : Int32 → Sto → Prop} {S : Nat} (hM : MB σ S) (h0 : (t < 0 ∨ 20 ≤ t) ∨ w < 0 ∨ 4 < w → K (-1) σ) (h4 : ∀ j, j < 20 → t = nI j → w = 4 → K (gi σ 78 j) σ) (h : ¬ t < 0 → ¬ 20 ≤ t → (w = 0 ∨ w = 1 ∨ w = 2 ∨ w = 3) → ∀ v, K (nI (cnt (trB σ S t w) 0 S)) (dp σ v)) : CI (d + 4) 125 [aR (some 68), aI t, aI w] σ K := by
  have hS := hM.c
  refine CI_of ?_
  show Ev (d + 4, 0, 0) 125 0 [aR (some 68), aI t, aI w, aU, aU] [] σ _
  simp only [z10, z00, not_true_eq_false, not_false_eq_true, false_implies, true_implies, implies_true, nI_1, Int32.add_zero, true_or, or_true, true_and, and_true, eI_eq, eL_eq, eR_eq, eV_eq, lg_cmp_ge, lg_cmp_le, lg_cmp_gt, lg_cmp_lt, lg_cmp_eq, v_125_0, v_125_1, v_125_2, v_125_5, v_125_8, v_125_9, v_125_12, v_125_13, v_125_14, v_125_17, v_125_18, v_125_19, v_125_20, v_125_21, v_125_24, v_125_25, v_125_28, v_125_29, v_125_30, v_125_31, v_125_32, v_125_33, v_125_34, v_125_38, v_125_39, v_125_42, v_125_45, v_125_46, v_125_49, v_125_51, v_125_52, v_125_53, v_125_56, v_125_59, v_125_60, v_125_63, v_125_64, v_125_65, v_125_67, v_125_70, v_125_72, v_125_75, v_125_76, v_125_79, v_125_80, v_125_81, v_125_82, v_125_83, v_125_84, v_125_87, v_125_88, v_125_89, v_125_91, v_125_94, v_125_97, v_125_98, v_125_100, v_125_103, v_125_106, v_125_107, v_125_110, v_125_111, v_125_112, v_125_113, v_125_114, v_125_115, v_125_118, v_125_119, v_125_120, v_125_122, v_125_125, v_125_128, v_125_129, v_125_132, v_125_133, v_125_134, v_125_135, v_125_136, v_125_137, v_125_140, v_125_141, v_125_142, v_125_144, v_125_147, v_125_150, v_125_151, v_125_154, v_125_155, v_125_156, v_125_157, v_125_160, v_125_163, v_125_164, hM.o]
  refine M_isTrace (fun c => ?_) (fun c1 c2 => ?_)
  · simp only [z10, z00, not_true_eq_false, not_false_eq_true, false_implies, true_implies, implies_true, true_and, and_true, true_or, or_true, false_and, and_false, false_or, or_false]
    exact h0 (Or.inl c)
  · simp only [z10, z00, not_true_eq_false, not_false_eq_true, false_implies, true_implies, implies_true, true_and, and_true, true_or, or_true, false_and, and_false, false_or, or_false]
    refine ⟨fun g => h0 (Or.inr (Or.inl g)), fun g => ⟨fun g2 => ⟨fun g3 => ?_, fun g3 => ?_⟩, fun g2 => h0 (Or.inr (Or.inr (Int32.not_le.mp g2)))⟩⟩
    · have := M_trace_loop (d := d) (t := t) (w := w) (K := K) hM (by
        have e1 : w.toInt < 5 := by have := Int32.le_iff_toInt_le.mp g2; have z : (4 : Int32).toInt = 4 := by decide
                                    omega
        have e2 : 0 ≤ w.toInt := by have := Int32.le_iff_toInt_le.mp (Int32.not_lt.mp g); simpa using this
        have e3 : ¬ w.toInt = 4 := fun e => g3 (of_toInt e)
        have e4 : w.toInt = 0 ∨ w.toInt = 1 ∨ w.toInt = 2 ∨ w.toInt = 3 := by omega
        rcases e4 with e | e | e | e
        · exact Or.inl (of_toInt e)
        · exact Or.inr (Or.inl (of_toInt e))
        · exact Or.inr (Or.inr (Or.inl (of_toInt e)))
        · exact Or.inr (Or.inr (Or.inr (of_toInt e)))) S 0 0 (gi σ 68 18) (by omega) (fun v => by
        simpa using h c1 c2 (by
          have e1 : w.toInt < 5 := by have := Int32.le_iff_toInt_le.mp g2; have z : (4 : Int32).toInt = 4 := by decide
                                      omega
          have e2 : 0 ≤ w.toInt := by have := Int32.le_iff_toInt_le.mp (Int32.not_lt.mp g); simpa using this
          have e3 : ¬ w.toInt = 4 := fun e => g3 (of_toInt e)
          have e4 : w.toInt = 0 ∨ w.toInt = 1 ∨ w.toInt = 2 ∨ w.toInt = 3 := by omega
          rcases e4 with e | e | e | e
          · exact Or.inl (of_toInt e)
          · exact Or.inr (Or.inl (of_toInt e))
          · exact Or.inr (Or.inr (Or.inl (of_toInt e)))
          · exact Or.inr (Or.inr (Or.inr (of_toInt e)))) v)
      rw [dp_self] at this
      simpa only [nI_0] using this
    · obtain ⟨j, hj, e⟩ := ix_of (n := 20) (by decide) c1 c2
      have hc : (nI j).toNatClampNeg = j := nI_clamp (by omega)
      have := h4 j hj e g3
      subst e
      simp only [z10, z00, not_true_eq_false, not_false_eq_true, false_implies, true_implies, implies_true, nI_1, Int32.add_zero, true_or, or_true, true_and, and_true, eI_eq, eL_eq, eR_eq, eV_eq, lg_cmp_ge, lg_cmp_le, lg_cmp_gt, lg_cmp_lt, lg_cmp_eq, v_125_0, v_125_1, v_125_2, v_125_5, v_125_8, v_125_9, v_125_12, v_125_13, v_125_14, v_125_17, v_125_18, v_125_19, v_125_20, v_125_21, v_125_24, v_125_25, v_125_28, v_125_29, v_125_30, v_125_31, v_125_32, v_125_33, v_125_34, v_125_36, v_125_38, v_125_39, v_125_42, v_125_45, v_125_46, v_125_49, v_125_51, v_125_52, v_125_53, v_125_56, v_125_59, v_125_60, v_125_63, v_125_64, v_125_65, v_125_67, v_125_70, v_125_72, v_125_75, v_125_76, v_125_79, v_125_80, v_125_81, v_125_82, v_125_83, v_125_84, v_125_87, v_125_88, v_125_89, v_125_91, v_125_94, v_125_97, v_125_98, v_125_100, v_125_103, v_125_106, v_125_107, v_125_110, v_125_111, v_125_112, v_125_113, v_125_114, v_125_115, v_125_118, v_125_119, v_125_120, v_125_122, v_125_125, v_125_128, v_125_129, v_125_132, v_125_133, v_125_134, v_125_135, v_125_136, v_125_137, v_125_140, v_125_141, v_125_142, v_125_144, v_125_147, v_125_150, v_125_151, v_125_154, v_125_155, v_125_156, v_125_157, v_125_160, v_125_163, v_125_164, hM.o, hM.r10, hM.x78 (k := j) hj, hc, z10, z00, not_true_eq_false, not_false_eq_true, false_implies, true_implies, implies_true, true_and, and_true, true_or, or_true, false_and, and_false, false_or, or_false]
      exact this
