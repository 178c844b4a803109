/-! the start: small constructors -/
section
variable {σ : Sto} {f : Nat → Nat → Int32} {g : Nat → Nat → Option Nat}
theorem okO_alo {σ : Sto} {x c : Nat} (h : okO σ x c) : okO (alo σ) x c := ⟨Nat.lt_succ_of_lt h.1, h.2⟩
theorem sn_alo (σ : Sto) : sn (alo σ) = sn σ + 1 := rfl
theorem C_trace {d a : Nat} {K : Sto → Prop} (hr : Rep σ (a + 1) f g) (hb : Bl (a + 1) f g) (k1 : kd a = (3, 8)) (k2 : kd (a + 1) = (7, 60)) (h : ∀ σ', Rep σ' (a + 2) (up2 (up2 f a 2 1) a 3 0) (up2 g a 6 (some (a + 1))) → K σ') : CV (d + 1) 28 [aR (some a)] σ K := by
  have hs := hr.s
  have hO : okO σ a 3 := ⟨by rw [hs]; omega, by rw [k1]⟩
  have hO2 : okO (alo (si (si σ a 2 1) a 3 0)) a 3 := okO_alo hO
  have c60 : (60 : Int32).toNatClampNeg = 60 := by decide
  have n60 : ¬ (60 : Int32) < 0 := by decide
  have l60 : 60 ≤ 10000 := by decide
  refine CV_of ?_
  show Ev (d + 1, 1, 60) 28 0 [aR (some a)] [] σ _
  simp only [z10, z00, not_true_eq_false, not_false_eq_true, false_implies, true_implies, implies_true, nI_1, Int32.add_zero, true_or, or_true, true_and, and_true, eI_eq, eL_eq, eR_eq, eV_eq, lg_cmp_ge, lg_cmp_le, lg_cmp_gt, lg_cmp_lt, lg_cmp_eq, v_28_0, v_28_1, v_28_4, v_28_5, v_28_6, v_28_9, v_28_10, v_28_11, v_28_14, v_28_15, v_28_17, v_28_19, v_28_22, okO_si, hO, sn_si_r, hs, k2, c60, n60, l60, hO2, Nat.le_refl]
  refine h _ ?_
  have r1 := (hr.wi a 2 1).wi a 3 0
  have b1 : Bl (a + 1) (up2 (up2 f a 2 1) a 3 0) g := (hb.i (by omega)).i (by omega)
  exact (r1.al b1).wr a 6 (some (a + 1))
end
