/-! the start: ways, totals, clocks -/
section
variable {σ : Sto} {f : Nat → Nat → Int32} {g : Nat → Nat → Option Nat}
theorem c_60 : (60 : Int32).toNatClampNeg = 60 ∧ (6 : Int32).toNatClampNeg = 6 ∧ (48 : Int32).toNatClampNeg = 48 ∧ (1488 : Int32).toNatClampNeg = 1488 ∧ (36 : Int32).toNatClampNeg = 36 := by decide
theorem n_60 : ¬ (60 : Int32) < 0 ∧ ¬ (6 : Int32) < 0 ∧ ¬ (48 : Int32) < 0 ∧ ¬ (1488 : Int32) < 0 ∧ ¬ (36 : Int32) < 0 := by decide
theorem C_way {d a : Nat} {K : Sto → Prop} (hr : Rep σ (a + 1) f g) (hb : Bl (a + 1) f g) (k0 : kd a = (4, 6)) (k1 : kd (a + 1) = (7, 60)) (k2 : kd (a + 1 + 1) = (7, 60)) (k3 : kd (a + 1 + 1 + 1) = (8, 60)) (k4 : kd (a + 1 + 1 + 1 + 1) = (8, 60)) (k5 : kd (a + 1 + 1 + 1 + 1 + 1) = (8, 6)) (h : ∀ σ', Rep σ' (a + 6) f (up2 (up2 (up2 (up2 (up2 g a 0 (some (a + 1))) a 1 (some (a + 2))) a 2 (some (a + 3))) a 3 (some (a + 4))) a 5 (some (a + 5))) → K σ') : CV (d + 1) 50 [aR (some a)] σ K := by
  have hs := hr.s
  have hO : ∀ τ : Sto, a < sn τ → okO τ a 4 := fun τ ht => ⟨ht, by rw [k0]⟩
  refine CV_of ?_
  show Ev (d + 1, 5, 246) 50 0 [aR (some a)] [] σ _
  simp only [z10, z00, not_true_eq_false, not_false_eq_true, false_implies, true_implies, implies_true, nI_1, Int32.add_zero, true_or, or_true, true_and, and_true, eI_eq, eL_eq, eR_eq, eV_eq, lg_cmp_ge, lg_cmp_le, lg_cmp_gt, lg_cmp_lt, lg_cmp_eq, v_50_0, v_50_1, v_50_4, v_50_5, v_50_7, v_50_9, v_50_12, v_50_13, v_50_15, v_50_17, v_50_20, v_50_21, v_50_23, v_50_25, v_50_28, v_50_29, v_50_31, v_50_33, v_50_36, v_50_37, v_50_39, v_50_41, v_50_44, c_60.1, c_60.2.1, n_60.1, n_60.2.1]
  refine ⟨by decide, by rw [hs, k1]; decide, by rw [hs, k1], by rw [hs, k1], by decide, hO _ (by rw [sn_alo, hs]; omega), ?_⟩
  refine ⟨by decide, ?_⟩
  simp only [sn_sr_r, sn_alo, hs, k1, k2, k3, k4, k5]
  refine ⟨by decide, trivial, trivial, by decide, hO _ (by simp only [sn_sr_r, sn_alo, hs]; omega), by decide, by decide, trivial, trivial, by decide, hO _ (by simp only [sn_sr_r, sn_alo, hs]; omega), by decide, by decide, trivial, trivial, by decide, hO _ (by simp only [sn_sr_r, sn_alo, hs]; omega), by decide, by decide, trivial, trivial, by decide, hO _ (by simp only [sn_sr_r, sn_alo, hs]; omega), ?_⟩
  refine h _ ?_
  have s1 := (hr.al hb).wr a 0 (some (a + 1))
  have b1 := hb.s.r (a := a) (k := 0) (v := some (a + 1)) (by omega)
  have s2 := (s1.al b1).wr a 1 (some (a + 2))
  have b2 := b1.s.r (a := a) (k := 1) (v := some (a + 2)) (by omega)
  have s3 := (s2.al b2).wr a 2 (some (a + 3))
  have b3 := b2.s.r (a := a) (k := 2) (v := some (a + 3)) (by omega)
  have s4 := (s3.al b3).wr a 3 (some (a + 4))
  have b4 := b3.s.r (a := a) (k := 3) (v := some (a + 4)) (by omega)
  exact (s4.al b4).wr a 5 (some (a + 5))
end
