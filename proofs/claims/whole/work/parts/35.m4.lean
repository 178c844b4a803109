/-! the reference: span, kid, root, trace -/
theorem fIx_some {p : Rw → Bool} : ∀ {l : List Rw} {k i : Nat}, fIx p k l = some i → ∃ r, l[i - k]? = some r ∧ p r = true
  | [], k, i, h => by cases h
  | r :: l, k, i, h => by
    unfold fIx at h
    by_cases c : p r = true
    · rw [if_pos c] at h
      cases h
      exact ⟨r, by simp, c⟩
    · rw [if_neg c] at h
      have h1 := (fIx_lt p l (k + 1) i h).1
      obtain ⟨q, h2, h3⟩ := fIx_some h
      refine ⟨q, ?_, h3⟩
      rw [show i - k = (i - (k + 1)) + 1 by omega, List.getElem?_cons_succ]
      exact h2
theorem fnd_lt (p : Nat → Bool) : ∀ (n k i : Nat), fnd p k n = some i → k ≤ i ∧ i < k + n ∧ p i = true
  | 0, k, i, h => by cases h
  | n + 1, k, i, h => by
    unfold fnd at h
    by_cases c : p k = true
    · rw [if_pos c] at h
      cases h
      exact ⟨by omega, by omega, c⟩
    · rw [if_neg c] at h
      have := fnd_lt p n (k + 1) i h
      exact ⟨by omega, by omega, this.2.2⟩
theorem sw_out {x : Int32} {lo hi : Int} (h : ¬ (lo ≤ x.toInt ∧ x.toInt ≤ hi)) : x.toInt < lo ∨ hi < x.toInt := by omega
theorem of_toInt {x y : Int32} (h : x.toInt = y.toInt) : x = y := Int32.toInt_inj.mp h
/-- what span(what) answers of the row at k -/
def spA (σ : Sto) (S k : Nat) (w : Int32) : Int32 :=
  if w = 0 then rP (rwM σ k) else if w = 1 then rV (rwM σ k) else if w = 2 then rC (rwM σ k) else if w = 3 then rK (rwM σ k) else if w = 4 then rF (rwM σ k)
  else if w = 5 then bI (decide (¬ rP (rwM σ k) = 0 ∧ uM σ S k = none)) else if w = 6 then (match roI (uM σ S) k with
    | none => -2
    | some _ => nI (deI (uM σ S) k)) else if w = 7 then (match roI (uM σ S) k with
    | none => -2
    | some i => rN (rwM σ i)) else if w = 8 then nI (cnt (kiB σ S k) 0 S) else -1
theorem M_span {d : Nat} {σ : Sto} {t x w : Int32} {K : Int32 → Sto → Prop} {S : Nat} (hM : MB σ S) (h : ∀ v, K (match fIx (key t x) 0 (rws σ 0 S) with
    | none => -1
    | some k => spA σ S k w) (dp σ v)) : CI (d + 5) 122 [aR (some 68), aI t, aI x, aI w] σ K := by
  have hS := hM.c
  have h' := h (gi σ 68 18)
  rw [dp_self] at h'
  refine CI_of ?_
  show Ev (d + 5, 0, 0) 122 0 [aR (some 68), aI t, aI x, aI w, aU] [] σ _
  simp only [z10, z00, not_true_eq_false, not_false_eq_true, false_implies, true_implies, implies_true, nI_1, Int32.add_zero, true_or, or_true, true_and, and_true, eI_eq, eL_eq, eR_eq, eV_eq, lg_cmp_ge, lg_cmp_le, lg_cmp_gt, lg_cmp_lt, lg_cmp_eq, v_122_0, v_122_1, v_122_2, v_122_3, v_122_6, v_122_8, v_122_10, v_122_13, v_122_14, v_122_15, v_122_68, v_122_69, v_122_72, v_122_74, v_122_75, v_122_76, v_122_77, v_122_80, v_122_82, v_122_83, v_122_84, v_122_85, v_122_88, v_122_90, v_122_91, v_122_92, v_122_93, v_122_96, v_122_98, v_122_99, v_122_100, v_122_101, v_122_104, v_122_106, v_122_107, v_122_108, v_122_109, v_122_111, v_122_114, v_122_117, v_122_118, v_122_121, v_122_122, v_122_123, v_122_124, v_122_126, v_122_129, v_122_132, v_122_134, v_122_137, v_122_138, v_122_141, v_122_142, v_122_143, v_122_145, v_122_148, v_122_151, v_122_153, v_122_156, v_122_157, v_122_160, v_122_161, v_122_163, v_122_166, v_122_167, v_122_168, v_122_169, v_122_171, v_122_174, v_122_175, v_122_176, hM.o]
  refine M_find hM ?_
  cases hf : fIx (key t x) 0 (rws σ 0 S) with
  | none =>
    rw [hf] at h'
    have c1 : ¬ (0 : Int32) ≤ -1 := by decide
    simp only [ofN, c1, z10, z00, not_true_eq_false, not_false_eq_true, false_implies, true_implies, implies_true, true_and, and_true, true_or, or_true, false_and, and_false, false_or, or_false]
    exact h'
  | some k =>
    have hk : k < S := by have := fIx_lt _ _ _ _ hf; rw [rws_len] at this; omega
    have c1 : (0 : Int32) ≤ nI k := nI_pos' (by omega)
    have hc : (nI k).toNatClampNeg = k := nI_clamp (by omega)
    rw [hf] at h'
    simp only [hf] at h
    simp only [ofN, c1, z10, z00, not_true_eq_false, not_false_eq_true, false_implies, true_implies, implies_true, true_and, and_true, true_or, or_true, false_and, and_false, false_or, or_false]
    by_cases hw : 0 ≤ w.toInt ∧ w.toInt ≤ 8
    · have hcase : w = 0 ∨ w = 1 ∨ w = 2 ∨ w = 3 ∨ w = 4 ∨ w = 5 ∨ w = 6 ∨ w = 7 ∨ w = 8 := by
        have e : w.toInt = 0 ∨ w.toInt = 1 ∨ w.toInt = 2 ∨ w.toInt = 3 ∨ w.toInt = 4 ∨ w.toInt = 5 ∨ w.toInt = 6 ∨ w.toInt = 7 ∨ w.toInt = 8 := by omega
        rcases e with e | e | e | e | e | e | e | e | e
        · exact Or.inl (of_toInt e)
        · exact Or.inr (Or.inl (of_toInt e))
        · exact Or.inr (Or.inr (Or.inl (of_toInt e)))
        · exact Or.inr (Or.inr (Or.inr (Or.inl (of_toInt e))))
        · exact Or.inr (Or.inr (Or.inr (Or.inr (Or.inl (of_toInt e)))))
        · exact Or.inr (Or.inr (Or.inr (Or.inr (Or.inr (Or.inl (of_toInt e))))))
        · exact Or.inr (Or.inr (Or.inr (Or.inr (Or.inr (Or.inr (Or.inl (of_toInt e)))))))
        · exact Or.inr (Or.inr (Or.inr (Or.inr (Or.inr (Or.inr (Or.inr (Or.inl (of_toInt e))))))))
        · exact Or.inr (Or.inr (Or.inr (Or.inr (Or.inr (Or.inr (Or.inr (Or.inr (of_toInt e))))))))
      rcases hcase with rfl | rfl | rfl | rfl | rfl | rfl | rfl | rfl | rfl
      · simp only [v_122_16_0, z10, z00, not_true_eq_false, not_false_eq_true, false_implies, true_implies, implies_true, nI_1, Int32.add_zero, true_or, or_true, true_and, and_true, eI_eq, eL_eq, eR_eq, eV_eq, lg_cmp_ge, lg_cmp_le, lg_cmp_gt, lg_cmp_lt, lg_cmp_eq, v_122_0, v_122_1, v_122_2, v_122_3, v_122_6, v_122_8, v_122_10, v_122_13, v_122_14, v_122_15, v_122_68, v_122_69, v_122_72, v_122_74, v_122_75, v_122_76, v_122_77, v_122_80, v_122_82, v_122_83, v_122_84, v_122_85, v_122_88, v_122_90, v_122_91, v_122_92, v_122_93, v_122_96, v_122_98, v_122_99, v_122_100, v_122_101, v_122_104, v_122_106, v_122_107, v_122_108, v_122_109, v_122_111, v_122_114, v_122_117, v_122_118, v_122_121, v_122_122, v_122_123, v_122_124, v_122_126, v_122_129, v_122_132, v_122_134, v_122_137, v_122_138, v_122_141, v_122_142, v_122_143, v_122_145, v_122_148, v_122_151, v_122_153, v_122_156, v_122_157, v_122_160, v_122_161, v_122_163, v_122_166, v_122_167, v_122_168, v_122_169, v_122_171, v_122_174, v_122_175, v_122_176, hM.o, hM.r3, hM.x71 (k := k) (by omega), hc]
        simpa [spA, rP_M] using h'
      · simp only [v_122_16_1, z10, z00, not_true_eq_false, not_false_eq_true, false_implies, true_implies, implies_true, nI_1, Int32.add_zero, true_or, or_true, true_and, and_true, eI_eq, eL_eq, eR_eq, eV_eq, lg_cmp_ge, lg_cmp_le, lg_cmp_gt, lg_cmp_lt, lg_cmp_eq, v_122_0, v_122_1, v_122_2, v_122_3, v_122_6, v_122_8, v_122_10, v_122_13, v_122_14, v_122_15, v_122_68, v_122_69, v_122_72, v_122_74, v_122_75, v_122_76, v_122_77, v_122_80, v_122_82, v_122_83, v_122_84, v_122_85, v_122_88, v_122_90, v_122_91, v_122_92, v_122_93, v_122_96, v_122_98, v_122_99, v_122_100, v_122_101, v_122_104, v_122_106, v_122_107, v_122_108, v_122_109, v_122_111, v_122_114, v_122_117, v_122_118, v_122_121, v_122_122, v_122_123, v_122_124, v_122_126, v_122_129, v_122_132, v_122_134, v_122_137, v_122_138, v_122_141, v_122_142, v_122_143, v_122_145, v_122_148, v_122_151, v_122_153, v_122_156, v_122_157, v_122_160, v_122_161, v_122_163, v_122_166, v_122_167, v_122_168, v_122_169, v_122_171, v_122_174, v_122_175, v_122_176, hM.o, hM.r4, hM.x72 (k := k) (by omega), hc]
        simpa [spA, rV_M] using h'
      · simp only [v_122_16_2, z10, z00, not_true_eq_false, not_false_eq_true, false_implies, true_implies, implies_true, nI_1, Int32.add_zero, true_or, or_true, true_and, and_true, eI_eq, eL_eq, eR_eq, eV_eq, lg_cmp_ge, lg_cmp_le, lg_cmp_gt, lg_cmp_lt, lg_cmp_eq, v_122_0, v_122_1, v_122_2, v_122_3, v_122_6, v_122_8, v_122_10, v_122_13, v_122_14, v_122_15, v_122_68, v_122_69, v_122_72, v_122_74, v_122_75, v_122_76, v_122_77, v_122_80, v_122_82, v_122_83, v_122_84, v_122_85, v_122_88, v_122_90, v_122_91, v_122_92, v_122_93, v_122_96, v_122_98, v_122_99, v_122_100, v_122_101, v_122_104, v_122_106, v_122_107, v_122_108, v_122_109, v_122_111, v_122_114, v_122_117, v_122_118, v_122_121, v_122_122, v_122_123, v_122_124, v_122_126, v_122_129, v_122_132, v_122_134, v_122_137, v_122_138, v_122_141, v_122_142, v_122_143, v_122_145, v_122_148, v_122_151, v_122_153, v_122_156, v_122_157, v_122_160, v_122_161, v_122_163, v_122_166, v_122_167, v_122_168, v_122_169, v_122_171, v_122_174, v_122_175, v_122_176, hM.o, hM.r5, hM.x73 (k := k) (by omega), hc]
        simpa [spA, rC_M] using h'
      · simp only [v_122_16_3, z10, z00, not_true_eq_false, not_false_eq_true, false_implies, true_implies, implies_true, nI_1, Int32.add_zero, true_or, or_true, true_and, and_true, eI_eq, eL_eq, eR_eq, eV_eq, lg_cmp_ge, lg_cmp_le, lg_cmp_gt, lg_cmp_lt, lg_cmp_eq, v_122_0, v_122_1, v_122_2, v_122_3, v_122_6, v_122_8, v_122_10, v_122_13, v_122_14, v_122_15, v_122_68, v_122_69, v_122_72, v_122_74, v_122_75, v_122_76, v_122_77, v_122_80, v_122_82, v_122_83, v_122_84, v_122_85, v_122_88, v_122_90, v_122_91, v_122_92, v_122_93, v_122_96, v_122_98, v_122_99, v_122_100, v_122_101, v_122_104, v_122_106, v_122_107, v_122_108, v_122_109, v_122_111, v_122_114, v_122_117, v_122_118, v_122_121, v_122_122, v_122_123, v_122_124, v_122_126, v_122_129, v_122_132, v_122_134, v_122_137, v_122_138, v_122_141, v_122_142, v_122_143, v_122_145, v_122_148, v_122_151, v_122_153, v_122_156, v_122_157, v_122_160, v_122_161, v_122_163, v_122_166, v_122_167, v_122_168, v_122_169, v_122_171, v_122_174, v_122_175, v_122_176, hM.o, hM.r6, hM.x74 (k := k) (by omega), hc]
        simpa [spA, rK_M] using h'
      · simp only [v_122_16_4, z10, z00, not_true_eq_false, not_false_eq_true, false_implies, true_implies, implies_true, nI_1, Int32.add_zero, true_or, or_true, true_and, and_true, eI_eq, eL_eq, eR_eq, eV_eq, lg_cmp_ge, lg_cmp_le, lg_cmp_gt, lg_cmp_lt, lg_cmp_eq, v_122_0, v_122_1, v_122_2, v_122_3, v_122_6, v_122_8, v_122_10, v_122_13, v_122_14, v_122_15, v_122_68, v_122_69, v_122_72, v_122_74, v_122_75, v_122_76, v_122_77, v_122_80, v_122_82, v_122_83, v_122_84, v_122_85, v_122_88, v_122_90, v_122_91, v_122_92, v_122_93, v_122_96, v_122_98, v_122_99, v_122_100, v_122_101, v_122_104, v_122_106, v_122_107, v_122_108, v_122_109, v_122_111, v_122_114, v_122_117, v_122_118, v_122_121, v_122_122, v_122_123, v_122_124, v_122_126, v_122_129, v_122_132, v_122_134, v_122_137, v_122_138, v_122_141, v_122_142, v_122_143, v_122_145, v_122_148, v_122_151, v_122_153, v_122_156, v_122_157, v_122_160, v_122_161, v_122_163, v_122_166, v_122_167, v_122_168, v_122_169, v_122_171, v_122_174, v_122_175, v_122_176, hM.o, hM.r7, hM.x75 (k := k) (by omega), hc]
        simpa [spA, rF_M] using h'
      · simp only [v_122_16_5, z10, z00, not_true_eq_false, not_false_eq_true, false_implies, true_implies, implies_true, nI_1, Int32.add_zero, true_or, or_true, true_and, and_true, eI_eq, eL_eq, eR_eq, eV_eq, lg_cmp_ge, lg_cmp_le, lg_cmp_gt, lg_cmp_lt, lg_cmp_eq, v_122_0, v_122_1, v_122_2, v_122_3, v_122_6, v_122_8, v_122_10, v_122_13, v_122_14, v_122_15, v_122_68, v_122_69, v_122_72, v_122_74, v_122_75, v_122_76, v_122_77, v_122_80, v_122_82, v_122_83, v_122_84, v_122_85, v_122_88, v_122_90, v_122_91, v_122_92, v_122_93, v_122_96, v_122_98, v_122_99, v_122_100, v_122_101, v_122_104, v_122_106, v_122_107, v_122_108, v_122_109, v_122_111, v_122_114, v_122_117, v_122_118, v_122_121, v_122_122, v_122_123, v_122_124, v_122_126, v_122_129, v_122_132, v_122_134, v_122_137, v_122_138, v_122_141, v_122_142, v_122_143, v_122_145, v_122_148, v_122_151, v_122_153, v_122_156, v_122_157, v_122_160, v_122_161, v_122_163, v_122_166, v_122_167, v_122_168, v_122_169, v_122_171, v_122_174, v_122_175, v_122_176, hM.o]
        refine M_isHoled hM hk (fun g1 g2 => ?_) (fun g => ?_)
        · simp only [z10, z00, not_true_eq_false, not_false_eq_true, false_implies, true_implies, implies_true, true_and, and_true, true_or, or_true, false_and, and_false, false_or, or_false]
          simpa [spA, g1, bI, show uM σ S k = none from g2] using h'
        · simp only [z10, z00, not_true_eq_false, not_false_eq_true, false_implies, true_implies, implies_true, true_and, and_true, true_or, or_true, false_and, and_false, false_or, or_false]
          have g' : ¬ (¬ rP (rwM σ k) = 0 ∧ uM σ S k = none) := g
          simpa [spA, g', bI] using h'
      · simp only [v_122_16_6, z10, z00, not_true_eq_false, not_false_eq_true, false_implies, true_implies, implies_true, nI_1, Int32.add_zero, true_or, or_true, true_and, and_true, eI_eq, eL_eq, eR_eq, eV_eq, lg_cmp_ge, lg_cmp_le, lg_cmp_gt, lg_cmp_lt, lg_cmp_eq, v_122_0, v_122_1, v_122_2, v_122_3, v_122_6, v_122_8, v_122_10, v_122_13, v_122_14, v_122_15, v_122_68, v_122_69, v_122_72, v_122_74, v_122_75, v_122_76, v_122_77, v_122_80, v_122_82, v_122_83, v_122_84, v_122_85, v_122_88, v_122_90, v_122_91, v_122_92, v_122_93, v_122_96, v_122_98, v_122_99, v_122_100, v_122_101, v_122_104, v_122_106, v_122_107, v_122_108, v_122_109, v_122_111, v_122_114, v_122_117, v_122_118, v_122_121, v_122_122, v_122_123, v_122_124, v_122_126, v_122_129, v_122_132, v_122_134, v_122_137, v_122_138, v_122_141, v_122_142, v_122_143, v_122_145, v_122_148, v_122_151, v_122_153, v_122_156, v_122_157, v_122_160, v_122_161, v_122_163, v_122_166, v_122_167, v_122_168, v_122_169, v_122_171, v_122_174, v_122_175, v_122_176, hM.o]
        have hr := M_rootOf (d := d + 2) (K := fun x2 σ2 => (0 ≤ x2 → okO σ2 68 6 ∧ K (gi σ2 68 18) σ2) ∧ (¬ 0 ≤ x2 → K (-2) σ2)) hM hk (by
          simp only [ofN_nn (roI_small hM hk), (hM.dp _).o, gi_dp, z10, z00, not_true_eq_false, not_false_eq_true, false_implies, true_implies, implies_true, true_and, and_true, true_or, or_true, false_and, and_false, false_or, or_false]
          refine ⟨fun g => ?_, fun g => ?_⟩
          · cases hr : roI (uM σ S) k with
            | none => exact absurd hr g
            | some i => simpa [spA, hr] using h (nI (deI (uM σ S) k))
          · simpa [spA, Classical.not_not.mp g] using h (nI (deI (uM σ S) k))) (gi σ 68 18)
        rw [dp_self] at hr
        exact hr
      · simp only [v_122_16_7, z10, z00, not_true_eq_false, not_false_eq_true, false_implies, true_implies, implies_true, nI_1, Int32.add_zero, true_or, or_true, true_and, and_true, eI_eq, eL_eq, eR_eq, eV_eq, lg_cmp_ge, lg_cmp_le, lg_cmp_gt, lg_cmp_lt, lg_cmp_eq, v_122_0, v_122_1, v_122_2, v_122_3, v_122_6, v_122_8, v_122_10, v_122_13, v_122_14, v_122_15, v_122_68, v_122_69, v_122_72, v_122_74, v_122_75, v_122_76, v_122_77, v_122_80, v_122_82, v_122_83, v_122_84, v_122_85, v_122_88, v_122_90, v_122_91, v_122_92, v_122_93, v_122_96, v_122_98, v_122_99, v_122_100, v_122_101, v_122_104, v_122_106, v_122_107, v_122_108, v_122_109, v_122_111, v_122_114, v_122_117, v_122_118, v_122_121, v_122_122, v_122_123, v_122_124, v_122_126, v_122_129, v_122_132, v_122_134, v_122_137, v_122_138, v_122_141, v_122_142, v_122_143, v_122_145, v_122_148, v_122_151, v_122_153, v_122_156, v_122_157, v_122_160, v_122_161, v_122_163, v_122_166, v_122_167, v_122_168, v_122_169, v_122_171, v_122_174, v_122_175, v_122_176, hM.o]
        have hr := M_rootOf (d := d + 2) (K := fun x2 σ2 => (0 ≤ x2 → okO σ2 68 6 ∧ okO σ2 68 6 ∧ CI (d + 4) 115 [aR (some 68), aI (nI k)] σ2 (fun x3 σ3 => Ev (d + 4 + 1, 0, 0) 122 166 [aR (some 68), aI t, aI x, aI 7, aI (nI k)] [aI x3, aR (gr σ2 68 2)] σ3 (eI K))) ∧ (¬ 0 ≤ x2 → K (-2) σ2)) hM hk (by
          simp only [ofN_nn (roI_small hM hk), (hM.dp _).o, z10, z00, not_true_eq_false, not_false_eq_true, false_implies, true_implies, implies_true, true_and, and_true, true_or, or_true, false_and, and_false, false_or, or_false]
          refine ⟨fun g => ?_, fun g => ?_⟩
          · refine M_rootOf hM hk ?_ _
            cases hr : roI (uM σ S) k with
            | none => exact absurd hr g
            | some i =>
              have hi := roI_lt hk hr
              have hci : (nI i).toNatClampNeg = i := nI_clamp (by omega)
              simp only [(hM.dp _).r2, ofN]
              rw [v_122_166]
              simp only [z10, z00, not_true_eq_false, not_false_eq_true, false_implies, true_implies, implies_true, nI_1, Int32.add_zero, true_or, or_true, true_and, and_true, eI_eq, eL_eq, eR_eq, eV_eq, lg_cmp_ge, lg_cmp_le, lg_cmp_gt, lg_cmp_lt, lg_cmp_eq, v_122_0, v_122_1, v_122_2, v_122_3, v_122_6, v_122_8, v_122_10, v_122_13, v_122_14, v_122_15, v_122_68, v_122_69, v_122_72, v_122_74, v_122_75, v_122_76, v_122_77, v_122_80, v_122_82, v_122_83, v_122_84, v_122_85, v_122_88, v_122_90, v_122_91, v_122_92, v_122_93, v_122_96, v_122_98, v_122_99, v_122_100, v_122_101, v_122_104, v_122_106, v_122_107, v_122_108, v_122_109, v_122_111, v_122_114, v_122_117, v_122_118, v_122_121, v_122_122, v_122_123, v_122_124, v_122_126, v_122_129, v_122_132, v_122_134, v_122_137, v_122_138, v_122_141, v_122_142, v_122_143, v_122_145, v_122_148, v_122_151, v_122_153, v_122_156, v_122_157, v_122_160, v_122_161, v_122_163, v_122_166, v_122_167, v_122_168, v_122_169, v_122_171, v_122_174, v_122_175, v_122_176, (hM.dp _).x70 (k := i) (by omega), hci, z10, z00, not_true_eq_false, not_false_eq_true, false_implies, true_implies, implies_true, true_and, and_true, true_or, or_true, false_and, and_false, false_or, or_false]
              show K (gi σ 70 i) (dp σ (nI (deI (uM σ S) k)))
              simpa [spA, hr, rN_M] using h (nI (deI (uM σ S) k))
          · simpa [spA, Classical.not_not.mp g] using h (nI (deI (uM σ S) k))) (gi σ 68 18)
        rw [dp_self] at hr
        exact hr
      · simp only [v_122_16_8, z10, z00, not_true_eq_false, not_false_eq_true, false_implies, true_implies, implies_true, nI_1, Int32.add_zero, true_or, or_true, true_and, and_true, eI_eq, eL_eq, eR_eq, eV_eq, lg_cmp_ge, lg_cmp_le, lg_cmp_gt, lg_cmp_lt, lg_cmp_eq, v_122_0, v_122_1, v_122_2, v_122_3, v_122_6, v_122_8, v_122_10, v_122_13, v_122_14, v_122_15, v_122_68, v_122_69, v_122_72, v_122_74, v_122_75, v_122_76, v_122_77, v_122_80, v_122_82, v_122_83, v_122_84, v_122_85, v_122_88, v_122_90, v_122_91, v_122_92, v_122_93, v_122_96, v_122_98, v_122_99, v_122_100, v_122_101, v_122_104, v_122_106, v_122_107, v_122_108, v_122_109, v_122_111, v_122_114, v_122_117, v_122_118, v_122_121, v_122_122, v_122_123, v_122_124, v_122_126, v_122_129, v_122_132, v_122_134, v_122_137, v_122_138, v_122_141, v_122_142, v_122_143, v_122_145, v_122_148, v_122_151, v_122_153, v_122_156, v_122_157, v_122_160, v_122_161, v_122_163, v_122_166, v_122_167, v_122_168, v_122_169, v_122_171, v_122_174, v_122_175, v_122_176, hM.o]
        exact M_kids hM hk (fun v => by simpa [spA] using h v)
    · rw [v_122_16_d _ _ _ _ _ _ _ _ (sw_out hw)]
      simp only [z10, z00, not_true_eq_false, not_false_eq_true, false_implies, true_implies, implies_true, nI_1, Int32.add_zero, true_or, or_true, true_and, and_true, eI_eq, eL_eq, eR_eq, eV_eq, lg_cmp_ge, lg_cmp_le, lg_cmp_gt, lg_cmp_lt, lg_cmp_eq, v_122_0, v_122_1, v_122_2, v_122_3, v_122_6, v_122_8, v_122_10, v_122_13, v_122_14, v_122_15, v_122_68, v_122_69, v_122_72, v_122_74, v_122_75, v_122_76, v_122_77, v_122_80, v_122_82, v_122_83, v_122_84, v_122_85, v_122_88, v_122_90, v_122_91, v_122_92, v_122_93, v_122_96, v_122_98, v_122_99, v_122_100, v_122_101, v_122_104, v_122_106, v_122_107, v_122_108, v_122_109, v_122_111, v_122_114, v_122_117, v_122_118, v_122_121, v_122_122, v_122_123, v_122_124, v_122_126, v_122_129, v_122_132, v_122_134, v_122_137, v_122_138, v_122_141, v_122_142, v_122_143, v_122_145, v_122_148, v_122_151, v_122_153, v_122_156, v_122_157, v_122_160, v_122_161, v_122_163, v_122_166, v_122_167, v_122_168, v_122_169, v_122_171, v_122_174, v_122_175, v_122_176]
      have n0 : ∀ (y : Int32), 0 ≤ y.toInt ∧ y.toInt ≤ 8 → ¬ w = y := fun y hy e => hw (by rw [e]; exact hy)
      simpa [spA, n0 0 (by decide), n0 1 (by decide), n0 2 (by decide), n0 3 (by decide), n0 4 (by decide), n0 5 (by decide), n0 6 (by decide), n0 7 (by decide), n0 8 (by decide)] using h'
def noA (σ : Sto) (r : Option Nat) : Int32 := match r with
  | none => -1
  | some k => rN (rwM σ k)
theorem M_kid {d : Nat} {σ : Sto} {t x i : Int32} {K : Int32 → Sto → Prop} {S : Nat} (hM : MB σ S) (h : ∀ v, K (match fIx (key t x) 0 (rws σ 0 S) with
    | none => -1
    | some k => noA σ (fnd (kaB σ S k i) 0 S)) (dp σ v)) : CI (d + 5) 123 [aR (some 68), aI t, aI x, aI i] σ K := by
  have hS := hM.c
  have h' := h (gi σ 68 18)
  rw [dp_self] at h'
  refine CI_of ?_
  show Ev (d + 5, 0, 0) 123 0 [aR (some 68), aI t, aI x, aI i, aU, aU] [] σ _
  simp only [z10, z00, not_true_eq_false, not_false_eq_true, false_implies, true_implies, implies_true, nI_1, Int32.add_zero, true_or, or_true, true_and, and_true, eI_eq, eL_eq, eR_eq, eV_eq, lg_cmp_ge, lg_cmp_le, lg_cmp_gt, lg_cmp_lt, lg_cmp_eq, v_123_0, v_123_1, v_123_2, v_123_3, v_123_6, v_123_8, v_123_10, v_123_13, v_123_14, v_123_15, v_123_16, v_123_18, v_123_19, v_123_22, v_123_24, v_123_26, v_123_29, v_123_30, v_123_33, v_123_34, v_123_37, v_123_39, v_123_40, hM.o]
  refine M_find hM ?_
  cases hf : fIx (key t x) 0 (rws σ 0 S) with
  | none =>
    rw [hf] at h'
    have c1 : ¬ (0 : Int32) ≤ -1 := by decide
    simp only [ofN, c1, z10, z00, not_true_eq_false, not_false_eq_true, false_implies, true_implies, implies_true, true_and, and_true, true_or, or_true, false_and, and_false, false_or, or_false]
    exact h'
  | some k =>
    have hk : k < S := by have := fIx_lt _ _ _ _ hf; rw [rws_len] at this; omega
    have c1 : (0 : Int32) ≤ nI k := nI_pos' (by omega)
    simp only [hf] at h
    simp only [ofN, c1, hM.o, z10, z00, not_true_eq_false, not_false_eq_true, false_implies, true_implies, implies_true, true_and, and_true, true_or, or_true, false_and, and_false, false_or, or_false]
    refine M_kidAt hM hk (fun v => ?_)
    cases hg : fnd (kaB σ S k i) 0 S with
    | none =>
      have c2 : ¬ (0 : Int32) ≤ -1 := by decide
      simp only [ofN, c2, z10, z00, not_true_eq_false, not_false_eq_true, false_implies, true_implies, implies_true, true_and, and_true, true_or, or_true, false_and, and_false, false_or, or_false]
      simpa [noA, hg] using h v
    | some j =>
      have hj := (fnd_lt _ _ _ _ hg).2.1
      have c2 : (0 : Int32) ≤ nI j := nI_pos' (by omega)
      have hc : (nI j).toNatClampNeg = j := nI_clamp (by omega)
      simp only [z10, z00, not_true_eq_false, not_false_eq_true, false_implies, true_implies, implies_true, nI_1, Int32.add_zero, true_or, or_true, true_and, and_true, eI_eq, eL_eq, eR_eq, eV_eq, lg_cmp_ge, lg_cmp_le, lg_cmp_gt, lg_cmp_lt, lg_cmp_eq, v_123_0, v_123_1, v_123_2, v_123_3, v_123_6, v_123_8, v_123_10, v_123_13, v_123_14, v_123_15, v_123_16, v_123_18, v_123_19, v_123_22, v_123_24, v_123_26, v_123_29, v_123_30, v_123_33, v_123_34, v_123_37, v_123_39, v_123_40, ofN, c2, (hM.dp v).o, (hM.dp v).r2, (hM.dp v).x70 (k := j) (by omega), hc, z10, z00, not_true_eq_false, not_false_eq_true, false_implies, true_implies, implies_true, true_and, and_true, true_or, or_true, false_and, and_false, false_or, or_false]
      show K (gi σ 70 j) (dp σ v)
      simpa [noA, hg, rN_M] using h v
theorem M_root {d : Nat} {σ : Sto} {t i : Int32} {K : Int32 → Sto → Prop} {S : Nat} (hM : MB σ S) (h0 : (t < 0 ∨ 20 ≤ t) → K (-1) σ) (h : ¬ t < 0 → ¬ 20 ≤ t → ∀ v, K (noA σ (fnd (raB σ S t i) 0 S)) (dp σ v)) : CI (d + 5) 124 [aR (some 68), aI t, aI i] σ K := by
  have hS := hM.c
  have c0 : ¬ (0 : Int32) ≤ -1 := by decide
  refine CI_of ?_
  show Ev (d + 5, 0, 0) 124 0 [aR (some 68), aI t, aI i, aU] [] σ _
  simp only [z10, z00, not_true_eq_false, not_false_eq_true, false_implies, true_implies, implies_true, nI_1, Int32.add_zero, true_or, or_true, true_and, and_true, eI_eq, eL_eq, eR_eq, eV_eq, lg_cmp_ge, lg_cmp_le, lg_cmp_gt, lg_cmp_lt, lg_cmp_eq, v_124_0, v_124_1, v_124_2, v_124_5, v_124_8, v_124_9, v_124_10, v_124_11, v_124_14, v_124_17, v_124_18, v_124_19, v_124_20, v_124_23, v_124_24, v_124_27, v_124_28, v_124_31, v_124_32, v_124_33, hM.o]
  refine M_isTrace (fun c => ?_) (fun c1 c2 => ?_)
  · simp only [z10, z00, not_true_eq_false, not_false_eq_true, false_implies, true_implies, implies_true, true_and, and_true, true_or, or_true, false_and, and_false, false_or, or_false, c0]
    exact h0 c
  · simp only [z10, z00, not_true_eq_false, not_false_eq_true, false_implies, true_implies, implies_true, true_and, and_true, true_or, or_true, false_and, and_false, false_or, or_false, hM.o]
    refine M_rootAt hM (fun v => ?_)
    cases hg : fnd (raB σ S t i) 0 S with
    | none =>
      simp only [ofN, c0, z10, z00, not_true_eq_false, not_false_eq_true, false_implies, true_implies, implies_true, true_and, and_true, true_or, or_true, false_and, and_false, false_or, or_false]
      simpa [noA, hg] using h c1 c2 v
    | some j =>
      have hj := (fnd_lt _ _ _ _ hg).2.1
      have c2' : (0 : Int32) ≤ nI j := nI_pos' (by omega)
      have hc : (nI j).toNatClampNeg = j := nI_clamp (by omega)
      simp only [z10, z00, not_true_eq_false, not_false_eq_true, false_implies, true_implies, implies_true, nI_1, Int32.add_zero, true_or, or_true, true_and, and_true, eI_eq, eL_eq, eR_eq, eV_eq, lg_cmp_ge, lg_cmp_le, lg_cmp_gt, lg_cmp_lt, lg_cmp_eq, v_124_0, v_124_1, v_124_2, v_124_5, v_124_8, v_124_9, v_124_10, v_124_11, v_124_14, v_124_17, v_124_18, v_124_19, v_124_20, v_124_23, v_124_24, v_124_27, v_124_28, v_124_31, v_124_32, v_124_33, ofN, c2', (hM.dp v).o, (hM.dp v).r2, (hM.dp v).x70 (k := j) (by omega), hc, z10, z00, not_true_eq_false, not_false_eq_true, false_implies, true_implies, implies_true, true_and, and_true, true_or, or_true, false_and, and_false, false_or, or_false]
      show K (gi σ 70 j) (dp σ v)
      simpa [noA, hg, rN_M] using h c1 c2 v
/-- what trace(what) counts -/
def trB (σ : Sto) (S : Nat) (t w : Int32) (k : Nat) : Bool := decide (rT (rwM σ k) = t) && (
  if w = 0 then decide (roI (uM σ S) k = some k) else if w = 1 then decide (¬ rP (rwM σ k) = 0 ∧ uM σ S k = none) && (fnd (fhB σ k) 0 k).isNone
  else if w = 2 then (roI (uM σ S) k).isNone else paB σ S k)
theorem M_trace_loop {d : Nat} {σ : Sto} {t w : Int32} {K : Int32 → Sto → Prop} {S : Nat} (hM : MB σ S) (hw : w = 0 ∨ w = 1 ∨ w = 2 ∨ w = 3) : ∀ (n k c : Nat) (v : Int32), k + n = S → (∀ u, K (nI (c + cnt (trB σ S t w) k n)) (dp σ u)) → Ev (d + 4, 0, 0) 125 36 [aR (some 68), aI t, aI w, aI (nI c), aI (nI k)] [] (dp σ v) (eI K) := by
  intro n
  have hS := hM.c
  induction n with
  | zero =>
    intro k c v hk h
    have hk' : k = S := by omega
    subst hk'
    have hle : nI k ≤ nI k := Int32.le_refl _
    rw [v_125_36]
    simp only [z10, z00, not_true_eq_false, not_false_eq_true, false_implies, true_implies, implies_true, nI_1, Int32.add_zero, true_or, or_true, true_and, and_true, eI_eq, eL_eq, eR_eq, eV_eq, lg_cmp_ge, lg_cmp_le, lg_cmp_gt, lg_cmp_lt, lg_cmp_eq, v_125_0, v_125_1, v_125_2, v_125_5, v_125_8, v_125_9, v_125_12, v_125_13, v_125_14, v_125_17, v_125_18, v_125_19, v_125_20, v_125_21, v_125_24, v_125_25, v_125_28, v_125_29, v_125_30, v_125_31, v_125_32, v_125_33, v_125_34, v_125_38, v_125_39, v_125_42, v_125_45, v_125_46, v_125_49, v_125_51, v_125_52, v_125_53, v_125_56, v_125_59, v_125_60, v_125_63, v_125_64, v_125_65, v_125_67, v_125_70, v_125_72, v_125_75, v_125_76, v_125_79, v_125_80, v_125_81, v_125_82, v_125_83, v_125_84, v_125_87, v_125_88, v_125_89, v_125_91, v_125_94, v_125_97, v_125_98, v_125_100, v_125_103, v_125_106, v_125_107, v_125_110, v_125_111, v_125_112, v_125_113, v_125_114, v_125_115, v_125_118, v_125_119, v_125_120, v_125_122, v_125_125, v_125_128, v_125_129, v_125_132, v_125_133, v_125_134, v_125_135, v_125_136, v_125_137, v_125_140, v_125_141, v_125_142, v_125_144, v_125_147, v_125_150, v_125_151, v_125_154, v_125_155, v_125_156, v_125_157, v_125_160, v_125_163, v_125_164, (hM.dp v).o, (hM.dp v).n, hle]
    exact h v
  | succ n ih =>
    intro k c v hk h
    have hle : ¬ nI S ≤ nI k := nI_ge (by omega) (by omega)
    have hc : (nI k).toNatClampNeg = k := nI_clamp (by omega)
    have e69 : gi (dp σ v) 69 = gi σ 69 := rfl
    have hM' := hM.dp v
    have hks : k < S := by omega
    rw [v_125_36]
    have go1 : ∀ u, trB σ S t w k = true → Ev (d + 4, 0, 0) 125 36 [aR (some 68), aI t, aI w, aI (nI (c + 1)), aI (nI (k + 1))] [] (dp σ u) (eI K) := fun u g => ih (k + 1) (c + 1) u (by omega) (fun u => by
      have := h u
      simpa [cnt, g, Nat.add_assoc] using this)
    have go0 : ∀ u, trB σ S t w k = false → Ev (d + 4, 0, 0) 125 36 [aR (some 68), aI t, aI w, aI (nI c), aI (nI (k + 1))] [] (dp σ u) (eI K) := fun u g => ih (k + 1) c u (by omega) (fun u => by
      have := h u
      simpa [cnt, g] using this)
    have z20 : ((2 : Int32) = 0) = False := eq_false (by decide)
    have z30 : ((3 : Int32) = 0) = False := eq_false (by decide)
    have z01 : ((0 : Int32) = 1) = False := eq_false (by decide)
    have z21 : ((2 : Int32) = 1) = False := eq_false (by decide)
    have z31 : ((3 : Int32) = 1) = False := eq_false (by decide)
    have z02 : ((0 : Int32) = 2) = False := eq_false (by decide)
    have z12 : ((1 : Int32) = 2) = False := eq_false (by decide)
    have z32 : ((3 : Int32) = 2) = False := eq_false (by decide)
    have z03 : ((0 : Int32) = 3) = False := eq_false (by decide)
    have z13 : ((1 : Int32) = 3) = False := eq_false (by decide)
    have z23 : ((2 : Int32) = 3) = False := eq_false (by decide)
    rcases hw with rfl | rfl | rfl | rfl
    · simp only [z10, z00, not_true_eq_false, not_false_eq_true, false_implies, true_implies, implies_true, nI_1, Int32.add_zero, true_or, or_true, true_and, and_true, eI_eq, eL_eq, eR_eq, eV_eq, lg_cmp_ge, lg_cmp_le, lg_cmp_gt, lg_cmp_lt, lg_cmp_eq, v_125_0, v_125_1, v_125_2, v_125_5, v_125_8, v_125_9, v_125_12, v_125_13, v_125_14, v_125_17, v_125_18, v_125_19, v_125_20, v_125_21, v_125_24, v_125_25, v_125_28, v_125_29, v_125_30, v_125_31, v_125_32, v_125_33, v_125_34, v_125_38, v_125_39, v_125_42, v_125_45, v_125_46, v_125_49, v_125_51, v_125_52, v_125_53, v_125_56, v_125_59, v_125_60, v_125_63, v_125_64, v_125_65, v_125_67, v_125_70, v_125_72, v_125_75, v_125_76, v_125_79, v_125_80, v_125_81, v_125_82, v_125_83, v_125_84, v_125_87, v_125_88, v_125_89, v_125_91, v_125_94, v_125_97, v_125_98, v_125_100, v_125_103, v_125_106, v_125_107, v_125_110, v_125_111, v_125_112, v_125_113, v_125_114, v_125_115, v_125_118, v_125_119, v_125_120, v_125_122, v_125_125, v_125_128, v_125_129, v_125_132, v_125_133, v_125_134, v_125_135, v_125_136, v_125_137, v_125_140, v_125_141, v_125_142, v_125_144, v_125_147, v_125_150, v_125_151, v_125_154, v_125_155, v_125_156, v_125_157, v_125_160, v_125_163, v_125_164, hM'.o, hM'.n, hM'.r1, hM'.x69 (k := k) (by omega), hc, e69, hle, z01, z02, z03]
      refine ⟨fun g => M_rootOf hM hks ?_ v, fun g => go0 v (by simp [trB, rT_M, g])⟩
      simp only [ofN_inj (roI_small hM hks) (show k < 2 ^ 31 by omega), nI_1, Int32.add_zero]
      refine ⟨fun g2 => go0 _ (by simp [trB, g2]), fun g2 => go1 _ (by simp [trB, rT_M, g, g2])⟩
    · simp only [z10, z00, not_true_eq_false, not_false_eq_true, false_implies, true_implies, implies_true, nI_1, Int32.add_zero, true_or, or_true, true_and, and_true, eI_eq, eL_eq, eR_eq, eV_eq, lg_cmp_ge, lg_cmp_le, lg_cmp_gt, lg_cmp_lt, lg_cmp_eq, v_125_0, v_125_1, v_125_2, v_125_5, v_125_8, v_125_9, v_125_12, v_125_13, v_125_14, v_125_17, v_125_18, v_125_19, v_125_20, v_125_21, v_125_24, v_125_25, v_125_28, v_125_29, v_125_30, v_125_31, v_125_32, v_125_33, v_125_34, v_125_38, v_125_39, v_125_42, v_125_45, v_125_46, v_125_49, v_125_51, v_125_52, v_125_53, v_125_56, v_125_59, v_125_60, v_125_63, v_125_64, v_125_65, v_125_67, v_125_70, v_125_72, v_125_75, v_125_76, v_125_79, v_125_80, v_125_81, v_125_82, v_125_83, v_125_84, v_125_87, v_125_88, v_125_89, v_125_91, v_125_94, v_125_97, v_125_98, v_125_100, v_125_103, v_125_106, v_125_107, v_125_110, v_125_111, v_125_112, v_125_113, v_125_114, v_125_115, v_125_118, v_125_119, v_125_120, v_125_122, v_125_125, v_125_128, v_125_129, v_125_132, v_125_133, v_125_134, v_125_135, v_125_136, v_125_137, v_125_140, v_125_141, v_125_142, v_125_144, v_125_147, v_125_150, v_125_151, v_125_154, v_125_155, v_125_156, v_125_157, v_125_160, v_125_163, v_125_164, hM'.o, hM'.n, hM'.r1, hM'.x69 (k := k) (by omega), hc, e69, hle, z10, z12, z13]
      refine ⟨fun g => M_isHoled hM' hks (fun g1 g2 => ?_) (fun g1 => ?_), fun g => go0 v (by simp [trB, rT_M, g])⟩
      · rw [rws_dp, rwM_dp] at g2
        rw [rwM_dp] at g1
        simp only [z10, z00, not_true_eq_false, not_false_eq_true, false_implies, true_implies, implies_true, true_and, and_true, true_or, or_true, false_and, and_false, false_or, or_false, hM'.o]
        refine M_isFirstHole hM' hks ?_
        have ef : fhB (dp σ v) k = fhB σ k := rfl
        rw [ef]
        cases hb : (fnd (fhB σ k) 0 k).isNone with
        | true =>
          simp only [bI, z10, z00, not_true_eq_false, not_false_eq_true, false_implies, true_implies, implies_true, true_and, and_true, true_or, or_true, false_and, and_false, false_or, or_false, if_true, nI_1]
          exact go1 v (by simp [trB, rT_M, g, g1, show uM σ S k = none from g2, hb, z10])
        | false =>
          simp only [bI, z10, z00, not_true_eq_false, not_false_eq_true, false_implies, true_implies, implies_true, true_and, and_true, true_or, or_true, false_and, and_false, false_or, or_false, if_true, Bool.false_eq_true, if_false, Int32.add_zero]
          exact go0 v (by simp [trB, hb, z10])
      · rw [rws_dp, rwM_dp] at g1
        simp only [z10, z00, not_true_eq_false, not_false_eq_true, false_implies, true_implies, implies_true, true_and, and_true, true_or, or_true, false_and, and_false, false_or, or_false, Int32.add_zero]
        exact go0 v (by
          have g1' : ¬ (¬ rP (rwM σ k) = 0 ∧ uM σ S k = none) := g1
          simp [trB, g1', z10])
    · simp only [z10, z00, not_true_eq_false, not_false_eq_true, false_implies, true_implies, implies_true, nI_1, Int32.add_zero, true_or, or_true, true_and, and_true, eI_eq, eL_eq, eR_eq, eV_eq, lg_cmp_ge, lg_cmp_le, lg_cmp_gt, lg_cmp_lt, lg_cmp_eq, v_125_0, v_125_1, v_125_2, v_125_5, v_125_8, v_125_9, v_125_12, v_125_13, v_125_14, v_125_17, v_125_18, v_125_19, v_125_20, v_125_21, v_125_24, v_125_25, v_125_28, v_125_29, v_125_30, v_125_31, v_125_32, v_125_33, v_125_34, v_125_38, v_125_39, v_125_42, v_125_45, v_125_46, v_125_49, v_125_51, v_125_52, v_125_53, v_125_56, v_125_59, v_125_60, v_125_63, v_125_64, v_125_65, v_125_67, v_125_70, v_125_72, v_125_75, v_125_76, v_125_79, v_125_80, v_125_81, v_125_82, v_125_83, v_125_84, v_125_87, v_125_88, v_125_89, v_125_91, v_125_94, v_125_97, v_125_98, v_125_100, v_125_103, v_125_106, v_125_107, v_125_110, v_125_111, v_125_112, v_125_113, v_125_114, v_125_115, v_125_118, v_125_119, v_125_120, v_125_122, v_125_125, v_125_128, v_125_129, v_125_132, v_125_133, v_125_134, v_125_135, v_125_136, v_125_137, v_125_140, v_125_141, v_125_142, v_125_144, v_125_147, v_125_150, v_125_151, v_125_154, v_125_155, v_125_156, v_125_157, v_125_160, v_125_163, v_125_164, hM'.o, hM'.n, hM'.r1, hM'.x69 (k := k) (by omega), hc, e69, hle, z20, z21, z23]
      refine ⟨fun g => M_rootOf hM hks ?_ v, fun g => go0 v (by simp [trB, rT_M, g])⟩
      simp only [ofN_nn (roI_small hM hks), nI_1, Int32.add_zero]
      refine ⟨fun g2 => go0 _ ?_, fun g2 => go1 _ ?_⟩
      · cases hr : roI (uM σ S) k with
        | none => exact absurd hr g2
        | some i => simp [trB, hr, z20, z21]
      · simp [trB, rT_M, g, Classical.not_not.mp g2, z20, z21]
    · simp only [z10, z00, not_true_eq_false, not_false_eq_true, false_implies, true_implies, implies_true, nI_1, Int32.add_zero, true_or, or_true, true_and, and_true, eI_eq, eL_eq, eR_eq, eV_eq, lg_cmp_ge, lg_cmp_le, lg_cmp_gt, lg_cmp_lt, lg_cmp_eq, v_125_0, v_125_1, v_125_2, v_125_5, v_125_8, v_125_9, v_125_12, v_125_13, v_125_14, v_125_17, v_125_18, v_125_19, v_125_20, v_125_21, v_125_24, v_125_25, v_125_28, v_125_29, v_125_30, v_125_31, v_125_32, v_125_33, v_125_34, v_125_38, v_125_39, v_125_42, v_125_45, v_125_46, v_125_49, v_125_51, v_125_52, v_125_53, v_125_56, v_125_59, v_125_60, v_125_63, v_125_64, v_125_65, v_125_67, v_125_70, v_125_72, v_125_75, v_125_76, v_125_79, v_125_80, v_125_81, v_125_82, v_125_83, v_125_84, v_125_87, v_125_88, v_125_89, v_125_91, v_125_94, v_125_97, v_125_98, v_125_100, v_125_103, v_125_106, v_125_107, v_125_110, v_125_111, v_125_112, v_125_113, v_125_114, v_125_115, v_125_118, v_125_119, v_125_120, v_125_122, v_125_125, v_125_128, v_125_129, v_125_132, v_125_133, v_125_134, v_125_135, v_125_136, v_125_137, v_125_140, v_125_141, v_125_142, v_125_144, v_125_147, v_125_150, v_125_151, v_125_154, v_125_155, v_125_156, v_125_157, v_125_160, v_125_163, v_125_164, hM'.o, hM'.n, hM'.r1, hM'.x69 (k := k) (by omega), hc, e69, hle, z30, z31, z32]
      refine ⟨fun g => M_isPair hM' hks ?_, fun g => go0 v (by simp [trB, rT_M, g])⟩
      have ep : paB (dp σ v) S k = paB σ S k := by
        unfold paB
        rw [uM_dp, rwM_dp]
      rw [ep]
      cases hb : paB σ S k with
      | true =>
        simp only [bI, z10, z00, not_true_eq_false, not_false_eq_true, false_implies, true_implies, implies_true, true_and, and_true, true_or, or_true, false_and, and_false, false_or, or_false, if_true, nI_1]
        exact go1 v (by simp [trB, rT_M, g, hb, z30, z31, z32])
      | false =>
        simp only [bI, z10, z00, not_true_eq_false, not_false_eq_true, false_implies, true_implies, implies_true, true_and, and_true, true_or, or_true, false_and, and_false, false_or, or_false, if_true, Bool.false_eq_true, if_false, Int32.add_zero]
        exact go0 v (by simp [trB, hb, z30, z31, z32])
