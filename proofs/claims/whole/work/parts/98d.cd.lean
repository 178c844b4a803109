/-! the start: totals, clocks -/
section
variable {σ : Sto} {f : Nat → Nat → Int32} {g : Nat → Nat → Option Nat}
theorem C_totals {d : Nat} {K : Sto → Prop} (hr : Rep σ 4 f g) (hb : Bl 4 f g) (h : ∀ σ', Rep σ' 7 f (up2 (up2 (up2 g 3 0 (some 4)) 3 1 (some 5)) 3 2 (some 6)) → K σ') : CV (d + 1) 23 [aR (some 3)] σ K := by
  have hs := hr.s
  have hO : ∀ τ : Sto, 3 < sn τ → okO τ 3 2 := fun τ ht => ⟨ht, by decide⟩
  have k1 : kd 4 = (7, 48) := by decide
  have k2 : kd (4 + 1) = (7, 48) := by decide
  have k3 : kd (4 + 1 + 1) = (7, 1488) := by decide
  refine CV_of ?_
  show Ev (d + 1, 3, 1584) 23 0 [aR (some 3)] [] σ _
  simp only [z10, z00, not_true_eq_false, not_false_eq_true, false_implies, true_implies, implies_true, nI_1, Int32.add_zero, true_or, or_true, true_and, and_true, eI_eq, eL_eq, eR_eq, eV_eq, lg_cmp_ge, lg_cmp_le, lg_cmp_gt, lg_cmp_lt, lg_cmp_eq, v_23_0, v_23_1, v_23_4, v_23_5, v_23_7, v_23_9, v_23_12, v_23_13, v_23_15, v_23_17, v_23_20, v_23_21, v_23_24, v_23_26, v_23_29, c_60.2.2.1, c_60.2.2.2.1, n_60.2.2.1, n_60.2.2.2.1]
  refine ⟨by decide, by rw [hs, k1]; decide, by rw [hs, k1], by rw [hs, k1], by decide, hO _ (by rw [sn_alo, hs]; omega), ?_⟩
  refine ⟨by decide, ?_⟩
  simp only [sn_sr_r, sn_alo, hs, k1, k2, k3]
  refine ⟨by decide, trivial, trivial, by decide, hO _ (by simp only [sn_sr_r, sn_alo, hs]; omega), by decide, by decide, trivial, trivial, by decide, hO _ (by simp only [sn_sr_r, sn_alo, hs]; omega), ?_⟩
  refine h _ ?_
  have s1 := (hr.al hb).wr 3 0 (some 4)
  have b1 := hb.s.r (a := 3) (k := 0) (v := some 4) (by omega)
  have s2 := (s1.al b1).wr 3 1 (some 5)
  have b2 := b1.s.r (a := 3) (k := 1) (v := some 5) (by omega)
  exact (s2.al b2).wr 3 2 (some 6)
theorem C_clocks {d : Nat} {K : Sto → Prop} (hr : Rep σ 8 f g) (hb : Bl 8 f g) (h : ∀ σ', Rep σ' 14 (up2 f 7 5 1) (up2 (up2 (up2 (up2 (up2 (up2 g 7 0 (some 8)) 7 1 (some 9)) 7 2 (some 10)) 7 3 (some 11)) 7 8 (some 12)) 7 9 (some 13)) → K σ') : CV (d + 1) 0 [aR (some 7)] σ K := by
  have hs := hr.s
  have hO : ∀ τ : Sto, 7 < sn τ → okO τ 7 0 := fun τ ht => ⟨ht, by decide⟩
  have k1 : kd 8 = (8, 36) := by decide
  have k2 : kd (8 + 1) = (8, 36) := by decide
  have k3 : kd (8 + 1 + 1) = (8, 6) := by decide
  have k4 : kd (8 + 1 + 1 + 1) = (7, 6) := by decide
  have k5 : kd (8 + 1 + 1 + 1 + 1) = (8, 6) := by decide
  have k6 : kd (8 + 1 + 1 + 1 + 1 + 1) = (9, 6) := by decide
  refine CV_of ?_
  show Ev (d + 1, 6, 96) 0 0 [aR (some 7)] [] σ _
  simp only [z10, z00, not_true_eq_false, not_false_eq_true, false_implies, true_implies, implies_true, nI_1, Int32.add_zero, true_or, or_true, true_and, and_true, eI_eq, eL_eq, eR_eq, eV_eq, lg_cmp_ge, lg_cmp_le, lg_cmp_gt, lg_cmp_lt, lg_cmp_eq, v_0_0, v_0_1, v_0_4, v_0_5, v_0_7, v_0_9, v_0_12, v_0_13, v_0_15, v_0_17, v_0_20, v_0_21, v_0_23, v_0_25, v_0_28, v_0_29, v_0_31, v_0_33, v_0_36, v_0_37, v_0_38, v_0_41, v_0_42, v_0_44, v_0_46, v_0_49, v_0_50, v_0_52, v_0_54, v_0_57, c_60.2.1, c_60.2.2.2.2, n_60.2.1, n_60.2.2.2.2]
  refine ⟨by decide, by rw [hs, k1]; decide, by rw [hs, k1], by rw [hs, k1], by decide, hO _ (by rw [sn_alo, hs]; omega), ?_⟩
  refine ⟨by decide, ?_⟩
  simp only [sn_sr_r, sn_si_r, sn_alo, hs, k1, k2, k3, k4, k5, k6]
  refine ⟨by decide, trivial, trivial, by decide, hO _ (by simp only [sn_sr_r, sn_si_r, sn_alo, hs]; omega), by decide, by decide, trivial, trivial, by decide, hO _ (by simp only [sn_sr_r, sn_si_r, sn_alo, hs]; omega), by decide, by decide, trivial, trivial, by decide, hO _ (by simp only [sn_sr_r, sn_si_r, sn_alo, hs]; omega), hO _ (by simp only [sn_sr_r, sn_si_r, sn_alo, hs]; omega), by decide, by decide, trivial, trivial, by decide, hO _ (by simp only [sn_sr_r, sn_si_r, sn_alo, hs]; omega), by decide, by decide, trivial, trivial, by decide, hO _ (by simp only [sn_sr_r, sn_si_r, sn_alo, hs]; omega), ?_⟩
  refine h _ ?_
  have s1 := (hr.al hb).wr 7 0 (some 8)
  have b1 := hb.s.r (a := 7) (k := 0) (v := some 8) (by omega)
  have s2 := (s1.al b1).wr 7 1 (some 9)
  have b2 := b1.s.r (a := 7) (k := 1) (v := some 9) (by omega)
  have s3 := (s2.al b2).wr 7 2 (some 10)
  have b3 := b2.s.r (a := 7) (k := 2) (v := some 10) (by omega)
  have s4 := ((s3.al b3).wr 7 3 (some 11)).wi 7 5 1
  have b4 := (b3.s.r (a := 7) (k := 3) (v := some 11) (by omega)).i (a := 7) (k := 5) (v := 1) (by omega)
  have s5 := (s4.al b4).wr 7 8 (some 12)
  have b5 := b4.s.r (a := 7) (k := 8) (v := some 12) (by omega)
  exact (s5.al b5).wr 7 9 (some 13)
end
