/-! the start: the reference, field by field; written by gen_cm.py -/
section
variable {σ : Sto} {f : Nat → Nat → Int32} {g : Nat → Nat → Option Nat} {d c s : Nat} {Q : Po}
theorem cm_4 (hr : Rep σ 69 f g) (hb : Bl 69 f g) (nx : ∀ σ', Rep σ' 69 (up2 f 68 0 0) g → Bl 69 (up2 f 68 0 0) g → Ev (d, c, s) 105 9 [aR (some 68)] [] σ' Q) : Ev (d, c, s) 105 4 [aR (some 68)] [] σ Q := by
  have hs := hr.s
  simp only [v_105_4, v_105_5, v_105_6]
  exact ⟨⟨by rw [hs]; omega, by decide⟩, nx _ (hr.wi 68 0 0) (hb.i (by omega))⟩
theorem cm_9 (hr : Rep σ 69 f g) (hb : Bl 69 f g) (hc : 1 ≤ c) (hsz : 200 ≤ s) (nx : ∀ σ', Rep σ' 70 f (up2 g 68 1 (some 69)) → Bl 70 f (up2 g 68 1 (some 69)) → Ev (d, c - 1, s - 200) 105 18 [aR (some 68)] [] σ' Q) : Ev (d, c, s) 105 9 [aR (some 68)] [] σ Q := by
  have hs := hr.s
  have k1 : kd 69 = (7, 200) := by decide
  simp only [v_105_9, v_105_10, v_105_13, v_105_15, hs, k1]
  exact ⟨hc, hsz, trivial, by decide, by decide, by decide, ⟨by rw [sn_alo, hs]; omega, by decide⟩, nx _ ((hr.al hb).wr 68 1 (some 69)) (hb.s.r (by omega))⟩
theorem cm_18 (hr : Rep σ 70 f g) (hb : Bl 70 f g) (hc : 1 ≤ c) (hsz : 200 ≤ s) (nx : ∀ σ', Rep σ' 71 f (up2 g 68 2 (some 70)) → Bl 71 f (up2 g 68 2 (some 70)) → Ev (d, c - 1, s - 200) 105 27 [aR (some 68)] [] σ' Q) : Ev (d, c, s) 105 18 [aR (some 68)] [] σ Q := by
  have hs := hr.s
  have k1 : kd 70 = (7, 200) := by decide
  simp only [v_105_18, v_105_19, v_105_22, v_105_24, hs, k1]
  exact ⟨hc, hsz, trivial, by decide, by decide, by decide, ⟨by rw [sn_alo, hs]; omega, by decide⟩, nx _ ((hr.al hb).wr 68 2 (some 70)) (hb.s.r (by omega))⟩
theorem cm_27 (hr : Rep σ 71 f g) (hb : Bl 71 f g) (hc : 1 ≤ c) (hsz : 200 ≤ s) (nx : ∀ σ', Rep σ' 72 f (up2 g 68 3 (some 71)) → Bl 72 f (up2 g 68 3 (some 71)) → Ev (d, c - 1, s - 200) 105 36 [aR (some 68)] [] σ' Q) : Ev (d, c, s) 105 27 [aR (some 68)] [] σ Q := by
  have hs := hr.s
  have k1 : kd 71 = (7, 200) := by decide
  simp only [v_105_27, v_105_28, v_105_31, v_105_33, hs, k1]
  exact ⟨hc, hsz, trivial, by decide, by decide, by decide, ⟨by rw [sn_alo, hs]; omega, by decide⟩, nx _ ((hr.al hb).wr 68 3 (some 71)) (hb.s.r (by omega))⟩
theorem cm_36 (hr : Rep σ 72 f g) (hb : Bl 72 f g) (hc : 1 ≤ c) (hsz : 200 ≤ s) (nx : ∀ σ', Rep σ' 73 f (up2 g 68 4 (some 72)) → Bl 73 f (up2 g 68 4 (some 72)) → Ev (d, c - 1, s - 200) 105 45 [aR (some 68)] [] σ' Q) : Ev (d, c, s) 105 36 [aR (some 68)] [] σ Q := by
  have hs := hr.s
  have k1 : kd 72 = (7, 200) := by decide
  simp only [v_105_36, v_105_37, v_105_40, v_105_42, hs, k1]
  exact ⟨hc, hsz, trivial, by decide, by decide, by decide, ⟨by rw [sn_alo, hs]; omega, by decide⟩, nx _ ((hr.al hb).wr 68 4 (some 72)) (hb.s.r (by omega))⟩
theorem cm_45 (hr : Rep σ 73 f g) (hb : Bl 73 f g) (hc : 1 ≤ c) (hsz : 200 ≤ s) (nx : ∀ σ', Rep σ' 74 f (up2 g 68 5 (some 73)) → Bl 74 f (up2 g 68 5 (some 73)) → Ev (d, c - 1, s - 200) 105 54 [aR (some 68)] [] σ' Q) : Ev (d, c, s) 105 45 [aR (some 68)] [] σ Q := by
  have hs := hr.s
  have k1 : kd 73 = (7, 200) := by decide
  simp only [v_105_45, v_105_46, v_105_49, v_105_51, hs, k1]
  exact ⟨hc, hsz, trivial, by decide, by decide, by decide, ⟨by rw [sn_alo, hs]; omega, by decide⟩, nx _ ((hr.al hb).wr 68 5 (some 73)) (hb.s.r (by omega))⟩
theorem cm_54 (hr : Rep σ 74 f g) (hb : Bl 74 f g) (hc : 1 ≤ c) (hsz : 200 ≤ s) (nx : ∀ σ', Rep σ' 75 f (up2 g 68 6 (some 74)) → Bl 75 f (up2 g 68 6 (some 74)) → Ev (d, c - 1, s - 200) 105 63 [aR (some 68)] [] σ' Q) : Ev (d, c, s) 105 54 [aR (some 68)] [] σ Q := by
  have hs := hr.s
  have k1 : kd 74 = (7, 200) := by decide
  simp only [v_105_54, v_105_55, v_105_58, v_105_60, hs, k1]
  exact ⟨hc, hsz, trivial, by decide, by decide, by decide, ⟨by rw [sn_alo, hs]; omega, by decide⟩, nx _ ((hr.al hb).wr 68 6 (some 74)) (hb.s.r (by omega))⟩
theorem cm_63 (hr : Rep σ 75 f g) (hb : Bl 75 f g) (hc : 1 ≤ c) (hsz : 200 ≤ s) (nx : ∀ σ', Rep σ' 76 f (up2 g 68 7 (some 75)) → Bl 76 f (up2 g 68 7 (some 75)) → Ev (d, c - 1, s - 200) 105 72 [aR (some 68)] [] σ' Q) : Ev (d, c, s) 105 63 [aR (some 68)] [] σ Q := by
  have hs := hr.s
  have k1 : kd 75 = (7, 200) := by decide
  simp only [v_105_63, v_105_64, v_105_67, v_105_69, hs, k1]
  exact ⟨hc, hsz, trivial, by decide, by decide, by decide, ⟨by rw [sn_alo, hs]; omega, by decide⟩, nx _ ((hr.al hb).wr 68 7 (some 75)) (hb.s.r (by omega))⟩
theorem cm_72 (hr : Rep σ 76 f g) (hb : Bl 76 f g) (hc : 1 ≤ c) (hsz : 200 ≤ s) (nx : ∀ σ', Rep σ' 77 f (up2 g 68 8 (some 76)) → Bl 77 f (up2 g 68 8 (some 76)) → Ev (d, c - 1, s - 200) 105 81 [aR (some 68)] [] σ' Q) : Ev (d, c, s) 105 72 [aR (some 68)] [] σ Q := by
  have hs := hr.s
  have k1 : kd 76 = (8, 200) := by decide
  simp only [v_105_72, v_105_73, v_105_76, v_105_78, hs, k1]
  exact ⟨hc, hsz, trivial, by decide, by decide, by decide, ⟨by rw [sn_alo, hs]; omega, by decide⟩, nx _ ((hr.al hb).wr 68 8 (some 76)) (hb.s.r (by omega))⟩
theorem cm_81 (hr : Rep σ 77 f g) (hb : Bl 77 f g) (hc : 1 ≤ c) (hsz : 200 ≤ s) (nx : ∀ σ', Rep σ' 78 f (up2 g 68 9 (some 77)) → Bl 78 f (up2 g 68 9 (some 77)) → Ev (d, c - 1, s - 200) 105 90 [aR (some 68)] [] σ' Q) : Ev (d, c, s) 105 81 [aR (some 68)] [] σ Q := by
  have hs := hr.s
  have k1 : kd 77 = (8, 200) := by decide
  simp only [v_105_81, v_105_82, v_105_85, v_105_87, hs, k1]
  exact ⟨hc, hsz, trivial, by decide, by decide, by decide, ⟨by rw [sn_alo, hs]; omega, by decide⟩, nx _ ((hr.al hb).wr 68 9 (some 77)) (hb.s.r (by omega))⟩
theorem cm_90 (hr : Rep σ 78 f g) (hb : Bl 78 f g) (hc : 1 ≤ c) (hsz : 20 ≤ s) (nx : ∀ σ', Rep σ' 79 f (up2 g 68 10 (some 78)) → Bl 79 f (up2 g 68 10 (some 78)) → Ev (d, c - 1, s - 20) 105 98 [aR (some 68)] [] σ' Q) : Ev (d, c, s) 105 90 [aR (some 68)] [] σ Q := by
  have hs := hr.s
  have k1 : kd 78 = (7, 20) := by decide
  simp only [v_105_90, v_105_91, v_105_93, v_105_95, hs, k1]
  exact ⟨hc, hsz, trivial, by decide, by decide, by decide, ⟨by rw [sn_alo, hs]; omega, by decide⟩, nx _ ((hr.al hb).wr 68 10 (some 78)) (hb.s.r (by omega))⟩
theorem cm_98 (hr : Rep σ 79 f g) (hb : Bl 79 f g) (hc : 1 ≤ c) (hsz : 20 ≤ s) (nx : ∀ σ', Rep σ' 80 f (up2 g 68 11 (some 79)) → Bl 80 f (up2 g 68 11 (some 79)) → Ev (d, c - 1, s - 20) 105 106 [aR (some 68)] [] σ' Q) : Ev (d, c, s) 105 98 [aR (some 68)] [] σ Q := by
  have hs := hr.s
  have k1 : kd 79 = (7, 20) := by decide
  simp only [v_105_98, v_105_99, v_105_101, v_105_103, hs, k1]
  exact ⟨hc, hsz, trivial, by decide, by decide, by decide, ⟨by rw [sn_alo, hs]; omega, by decide⟩, nx _ ((hr.al hb).wr 68 11 (some 79)) (hb.s.r (by omega))⟩
theorem cm_106 (hr : Rep σ 80 f g) (hb : Bl 80 f g) (hc : 1 ≤ c) (hsz : 20 ≤ s) (nx : ∀ σ', Rep σ' 81 f (up2 g 68 12 (some 80)) → Bl 81 f (up2 g 68 12 (some 80)) → Ev (d, c - 1, s - 20) 105 114 [aR (some 68)] [] σ' Q) : Ev (d, c, s) 105 106 [aR (some 68)] [] σ Q := by
  have hs := hr.s
  have k1 : kd 80 = (7, 20) := by decide
  simp only [v_105_106, v_105_107, v_105_109, v_105_111, hs, k1]
  exact ⟨hc, hsz, trivial, by decide, by decide, by decide, ⟨by rw [sn_alo, hs]; omega, by decide⟩, nx _ ((hr.al hb).wr 68 12 (some 80)) (hb.s.r (by omega))⟩
theorem cm_114 (hr : Rep σ 81 f g) (hb : Bl 81 f g) (nx : ∀ σ', Rep σ' 81 (up2 f 68 13 0) g → Bl 81 (up2 f 68 13 0) g → Ev (d, c, s) 105 119 [aR (some 68)] [] σ' Q) : Ev (d, c, s) 105 114 [aR (some 68)] [] σ Q := by
  have hs := hr.s
  simp only [v_105_114, v_105_115, v_105_116]
  exact ⟨⟨by rw [hs]; omega, by decide⟩, nx _ (hr.wi 68 13 0) (hb.i (by omega))⟩
theorem cm_119 (hr : Rep σ 81 f g) (hb : Bl 81 f g) (nx : ∀ σ', Rep σ' 81 (up2 f 68 14 0) g → Bl 81 (up2 f 68 14 0) g → Ev (d, c, s) 105 124 [aR (some 68)] [] σ' Q) : Ev (d, c, s) 105 119 [aR (some 68)] [] σ Q := by
  have hs := hr.s
  simp only [v_105_119, v_105_120, v_105_121]
  exact ⟨⟨by rw [hs]; omega, by decide⟩, nx _ (hr.wi 68 14 0) (hb.i (by omega))⟩
theorem cm_124 (hr : Rep σ 81 f g) (hb : Bl 81 f g) (nx : ∀ σ', Rep σ' 81 (up2 f 68 15 0) g → Bl 81 (up2 f 68 15 0) g → Ev (d, c, s) 105 129 [aR (some 68)] [] σ' Q) : Ev (d, c, s) 105 124 [aR (some 68)] [] σ Q := by
  have hs := hr.s
  simp only [v_105_124, v_105_125, v_105_126]
  exact ⟨⟨by rw [hs]; omega, by decide⟩, nx _ (hr.wi 68 15 0) (hb.i (by omega))⟩
theorem cm_129 (hr : Rep σ 81 f g) (hb : Bl 81 f g) (nx : ∀ σ', Rep σ' 81 (up2 f 68 16 0) g → Bl 81 (up2 f 68 16 0) g → Ev (d, c, s) 105 134 [aR (some 68)] [] σ' Q) : Ev (d, c, s) 105 129 [aR (some 68)] [] σ Q := by
  have hs := hr.s
  simp only [v_105_129, v_105_130, v_105_131]
  exact ⟨⟨by rw [hs]; omega, by decide⟩, nx _ (hr.wi 68 16 0) (hb.i (by omega))⟩
theorem cm_134 (hr : Rep σ 81 f g) (hb : Bl 81 f g) (nx : ∀ σ', Rep σ' 81 (up2 f 68 17 0) g → Bl 81 (up2 f 68 17 0) g → Ev (d, c, s) 105 139 [aR (some 68)] [] σ' Q) : Ev (d, c, s) 105 134 [aR (some 68)] [] σ Q := by
  have hs := hr.s
  simp only [v_105_134, v_105_135, v_105_136]
  exact ⟨⟨by rw [hs]; omega, by decide⟩, nx _ (hr.wi 68 17 0) (hb.i (by omega))⟩
theorem cm_139 (hr : Rep σ 81 f g) (hb : Bl 81 f g) (nx : ∀ σ', Rep σ' 81 (up2 f 68 18 0) g → Bl 81 (up2 f 68 18 0) g → Ev (d, c, s) 105 144 [aR (some 68)] [] σ' Q) : Ev (d, c, s) 105 139 [aR (some 68)] [] σ Q := by
  have hs := hr.s
  simp only [v_105_139, v_105_140, v_105_141]
  exact ⟨⟨by rw [hs]; omega, by decide⟩, nx _ (hr.wi 68 18 0) (hb.i (by omega))⟩
theorem cm_144 (hr : Rep σ 81 f g) (hb : Bl 81 f g) (hc : 1 ≤ c) (hsz : 36 ≤ s) (nx : ∀ σ', Rep σ' 82 f (up2 g 68 19 (some 81)) → Bl 82 f (up2 g 68 19 (some 81)) → Ev (d, c - 1, s - 36) 105 152 [aR (some 68)] [] σ' Q) : Ev (d, c, s) 105 144 [aR (some 68)] [] σ Q := by
  have hs := hr.s
  have k1 : kd 81 = (8, 36) := by decide
  simp only [v_105_144, v_105_145, v_105_147, v_105_149, hs, k1]
  exact ⟨hc, hsz, trivial, by decide, by decide, by decide, ⟨by rw [sn_alo, hs]; omega, by decide⟩, nx _ ((hr.al hb).wr 68 19 (some 81)) (hb.s.r (by omega))⟩
theorem cm_152 (hr : Rep σ 82 f g) (hb : Bl 82 f g) (hc : 1 ≤ c) (hsz : 36 ≤ s) (nx : ∀ σ', Rep σ' 83 f (up2 g 68 20 (some 82)) → Bl 83 f (up2 g 68 20 (some 82)) → Ev (d, c - 1, s - 36) 105 160 [aR (some 68)] [] σ' Q) : Ev (d, c, s) 105 152 [aR (some 68)] [] σ Q := by
  have hs := hr.s
  have k1 : kd 82 = (8, 36) := by decide
  simp only [v_105_152, v_105_153, v_105_155, v_105_157, hs, k1]
  exact ⟨hc, hsz, trivial, by decide, by decide, by decide, ⟨by rw [sn_alo, hs]; omega, by decide⟩, nx _ ((hr.al hb).wr 68 20 (some 82)) (hb.s.r (by omega))⟩
theorem cm_160 (hr : Rep σ 83 f g) (hb : Bl 83 f g) (hc : 1 ≤ c) (hsz : 36 ≤ s) (nx : ∀ σ', Rep σ' 84 f (up2 g 68 21 (some 83)) → Bl 84 f (up2 g 68 21 (some 83)) → Ev (d, c - 1, s - 36) 105 168 [aR (some 68)] [] σ' Q) : Ev (d, c, s) 105 160 [aR (some 68)] [] σ Q := by
  have hs := hr.s
  have k1 : kd 83 = (9, 36) := by decide
  simp only [v_105_160, v_105_161, v_105_163, v_105_165, hs, k1]
  exact ⟨hc, hsz, trivial, by decide, by decide, by decide, ⟨by rw [sn_alo, hs]; omega, by decide⟩, nx _ ((hr.al hb).wr 68 21 (some 83)) (hb.s.r (by omega))⟩
theorem cm_168 (hr : Rep σ 84 f g) (hb : Bl 84 f g) (hc : 1 ≤ c) (hsz : 36 ≤ s) (nx : ∀ σ', Rep σ' 85 f (up2 g 68 22 (some 84)) → Bl 85 f (up2 g 68 22 (some 84)) → Ev (d, c - 1, s - 36) 105 176 [aR (some 68)] [] σ' Q) : Ev (d, c, s) 105 168 [aR (some 68)] [] σ Q := by
  have hs := hr.s
  have k1 : kd 84 = (9, 36) := by decide
  simp only [v_105_168, v_105_169, v_105_171, v_105_173, hs, k1]
  exact ⟨hc, hsz, trivial, by decide, by decide, by decide, ⟨by rw [sn_alo, hs]; omega, by decide⟩, nx _ ((hr.al hb).wr 68 22 (some 84)) (hb.s.r (by omega))⟩
theorem cm_176 (hr : Rep σ 85 f g) (hb : Bl 85 f g) (hc : 1 ≤ c) (hsz : 6 ≤ s) (nx : ∀ σ', Rep σ' 86 f (up2 g 68 23 (some 85)) → Bl 86 f (up2 g 68 23 (some 85)) → Ev (d, c - 1, s - 6) 105 184 [aR (some 68)] [] σ' Q) : Ev (d, c, s) 105 176 [aR (some 68)] [] σ Q := by
  have hs := hr.s
  have k1 : kd 85 = (7, 6) := by decide
  simp only [v_105_176, v_105_177, v_105_179, v_105_181, hs, k1]
  exact ⟨hc, hsz, trivial, by decide, by decide, by decide, ⟨by rw [sn_alo, hs]; omega, by decide⟩, nx _ ((hr.al hb).wr 68 23 (some 85)) (hb.s.r (by omega))⟩
theorem cm_184 (hr : Rep σ 86 f g) (hb : Bl 86 f g) (hc : 1 ≤ c) (hsz : 6 ≤ s) (nx : ∀ σ', Rep σ' 87 f (up2 g 68 24 (some 86)) → Bl 87 f (up2 g 68 24 (some 86)) → Ev (d, c - 1, s - 6) 105 192 [aR (some 68)] [] σ' Q) : Ev (d, c, s) 105 184 [aR (some 68)] [] σ Q := by
  have hs := hr.s
  have k1 : kd 86 = (8, 6) := by decide
  simp only [v_105_184, v_105_185, v_105_187, v_105_189, hs, k1]
  exact ⟨hc, hsz, trivial, by decide, by decide, by decide, ⟨by rw [sn_alo, hs]; omega, by decide⟩, nx _ ((hr.al hb).wr 68 24 (some 86)) (hb.s.r (by omega))⟩
theorem cm_192 (hr : Rep σ 87 f g) (hb : Bl 87 f g) (hc : 1 ≤ c) (hsz : 6 ≤ s) (nx : ∀ σ', Rep σ' 88 f (up2 g 68 25 (some 87)) → Bl 88 f (up2 g 68 25 (some 87)) → Ev (d, c - 1, s - 6) 105 200 [aR (some 68)] [] σ' Q) : Ev (d, c, s) 105 192 [aR (some 68)] [] σ Q := by
  have hs := hr.s
  have k1 : kd 87 = (8, 6) := by decide
  simp only [v_105_192, v_105_193, v_105_195, v_105_197, hs, k1]
  exact ⟨hc, hsz, trivial, by decide, by decide, by decide, ⟨by rw [sn_alo, hs]; omega, by decide⟩, nx _ ((hr.al hb).wr 68 25 (some 87)) (hb.s.r (by omega))⟩
theorem cm_200 (hr : Rep σ 88 f g) (hb : Bl 88 f g) (hc : 1 ≤ c) (hsz : 6 ≤ s) (nx : ∀ σ', Rep σ' 89 f (up2 g 68 26 (some 88)) → Bl 89 f (up2 g 68 26 (some 88)) → Ev (d, c - 1, s - 6) 105 208 [aR (some 68)] [] σ' Q) : Ev (d, c, s) 105 200 [aR (some 68)] [] σ Q := by
  have hs := hr.s
  have k1 : kd 88 = (9, 6) := by decide
  simp only [v_105_200, v_105_201, v_105_203, v_105_205, hs, k1]
  exact ⟨hc, hsz, trivial, by decide, by decide, by decide, ⟨by rw [sn_alo, hs]; omega, by decide⟩, nx _ ((hr.al hb).wr 68 26 (some 88)) (hb.s.r (by omega))⟩
theorem cm_208 (hr : Rep σ 89 f g) (hb : Bl 89 f g) (nx : ∀ σ', Rep σ' 89 (up2 f 68 27 0) g → Bl 89 (up2 f 68 27 0) g → Ev (d, c, s) 105 213 [aR (some 68)] [] σ' Q) : Ev (d, c, s) 105 208 [aR (some 68)] [] σ Q := by
  have hs := hr.s
  simp only [v_105_208, v_105_209, v_105_210]
  exact ⟨⟨by rw [hs]; omega, by decide⟩, nx _ (hr.wi 68 27 0) (hb.i (by omega))⟩
theorem cm_213 (hr : Rep σ 89 f g) (hb : Bl 89 f g) (hc : 1 ≤ c) (hsz : 400 ≤ s) (nx : ∀ σ', Rep σ' 90 f (up2 g 68 28 (some 89)) → Bl 90 f (up2 g 68 28 (some 89)) → Ev (d, c - 1, s - 400) 105 222 [aR (some 68)] [] σ' Q) : Ev (d, c, s) 105 213 [aR (some 68)] [] σ Q := by
  have hs := hr.s
  have k1 : kd 89 = (7, 400) := by decide
  simp only [v_105_213, v_105_214, v_105_217, v_105_219, hs, k1]
  exact ⟨hc, hsz, trivial, by decide, by decide, by decide, ⟨by rw [sn_alo, hs]; omega, by decide⟩, nx _ ((hr.al hb).wr 68 28 (some 89)) (hb.s.r (by omega))⟩
theorem cm_222 (hr : Rep σ 90 f g) (hb : Bl 90 f g) (hc : 1 ≤ c) (hsz : 400 ≤ s) (nx : ∀ σ', Rep σ' 91 f (up2 g 68 29 (some 90)) → Bl 91 f (up2 g 68 29 (some 90)) → Ev (d, c - 1, s - 400) 105 231 [aR (some 68)] [] σ' Q) : Ev (d, c, s) 105 222 [aR (some 68)] [] σ Q := by
  have hs := hr.s
  have k1 : kd 90 = (8, 400) := by decide
  simp only [v_105_222, v_105_223, v_105_226, v_105_228, hs, k1]
  exact ⟨hc, hsz, trivial, by decide, by decide, by decide, ⟨by rw [sn_alo, hs]; omega, by decide⟩, nx _ ((hr.al hb).wr 68 29 (some 90)) (hb.s.r (by omega))⟩
theorem cm_231 (hr : Rep σ 91 f g) (hb : Bl 91 f g) (hc : 1 ≤ c) (hsz : 400 ≤ s) (nx : ∀ σ', Rep σ' 92 f (up2 g 68 30 (some 91)) → Bl 92 f (up2 g 68 30 (some 91)) → Ev (d, c - 1, s - 400) 105 240 [aR (some 68)] [] σ' Q) : Ev (d, c, s) 105 231 [aR (some 68)] [] σ Q := by
  have hs := hr.s
  have k1 : kd 91 = (8, 400) := by decide
  simp only [v_105_231, v_105_232, v_105_235, v_105_237, hs, k1]
  exact ⟨hc, hsz, trivial, by decide, by decide, by decide, ⟨by rw [sn_alo, hs]; omega, by decide⟩, nx _ ((hr.al hb).wr 68 30 (some 91)) (hb.s.r (by omega))⟩
theorem cm_240 (hr : Rep σ 92 f g) (hb : Bl 92 f g) (hc : 1 ≤ c) (hsz : 64 ≤ s) (nx : ∀ σ', Rep σ' 93 f (up2 g 68 31 (some 92)) → Bl 93 f (up2 g 68 31 (some 92)) → Ev (d, c - 1, s - 64) 105 248 [aR (some 68)] [] σ' Q) : Ev (d, c, s) 105 240 [aR (some 68)] [] σ Q := by
  have hs := hr.s
  have k1 : kd 92 = (7, 64) := by decide
  simp only [v_105_240, v_105_241, v_105_243, v_105_245, hs, k1]
  exact ⟨hc, hsz, trivial, by decide, by decide, by decide, ⟨by rw [sn_alo, hs]; omega, by decide⟩, nx _ ((hr.al hb).wr 68 31 (some 92)) (hb.s.r (by omega))⟩
theorem cm_248 (hr : Rep σ 93 f g) (hb : Bl 93 f g) (hc : 1 ≤ c) (hsz : 64 ≤ s) (nx : ∀ σ', Rep σ' 94 f (up2 g 68 32 (some 93)) → Bl 94 f (up2 g 68 32 (some 93)) → Ev (d, c - 1, s - 64) 105 256 [aR (some 68)] [] σ' Q) : Ev (d, c, s) 105 248 [aR (some 68)] [] σ Q := by
  have hs := hr.s
  have k1 : kd 93 = (8, 64) := by decide
  simp only [v_105_248, v_105_249, v_105_251, v_105_253, hs, k1]
  exact ⟨hc, hsz, trivial, by decide, by decide, by decide, ⟨by rw [sn_alo, hs]; omega, by decide⟩, nx _ ((hr.al hb).wr 68 32 (some 93)) (hb.s.r (by omega))⟩
theorem cm_256 (hr : Rep σ 94 f g) (hb : Bl 94 f g) (nx : ∀ σ', Rep σ' 94 (up2 f 68 33 0) g → Bl 94 (up2 f 68 33 0) g → Ev (d, c, s) 105 261 [aR (some 68)] [] σ' Q) : Ev (d, c, s) 105 256 [aR (some 68)] [] σ Q := by
  have hs := hr.s
  simp only [v_105_256, v_105_257, v_105_258]
  exact ⟨⟨by rw [hs]; omega, by decide⟩, nx _ (hr.wi 68 33 0) (hb.i (by omega))⟩
theorem cm_261 (hr : Rep σ 94 f g) (hb : Bl 94 f g) (hc : 1 ≤ c) (hsz : 400 ≤ s) (nx : ∀ σ', Rep σ' 95 f (up2 g 68 34 (some 94)) → Bl 95 f (up2 g 68 34 (some 94)) → Ev (d, c - 1, s - 400) 105 270 [aR (some 68)] [] σ' Q) : Ev (d, c, s) 105 261 [aR (some 68)] [] σ Q := by
  have hs := hr.s
  have k1 : kd 94 = (7, 400) := by decide
  simp only [v_105_261, v_105_262, v_105_265, v_105_267, hs, k1]
  exact ⟨hc, hsz, trivial, by decide, by decide, by decide, ⟨by rw [sn_alo, hs]; omega, by decide⟩, nx _ ((hr.al hb).wr 68 34 (some 94)) (hb.s.r (by omega))⟩
theorem cm_270 (hr : Rep σ 95 f g) (hb : Bl 95 f g) (hc : 1 ≤ c) (hsz : 400 ≤ s) (nx : ∀ σ', Rep σ' 96 f (up2 g 68 35 (some 95)) → Bl 96 f (up2 g 68 35 (some 95)) → Ev (d, c - 1, s - 400) 105 279 [aR (some 68)] [] σ' Q) : Ev (d, c, s) 105 270 [aR (some 68)] [] σ Q := by
  have hs := hr.s
  have k1 : kd 95 = (8, 400) := by decide
  simp only [v_105_270, v_105_271, v_105_274, v_105_276, hs, k1]
  exact ⟨hc, hsz, trivial, by decide, by decide, by decide, ⟨by rw [sn_alo, hs]; omega, by decide⟩, nx _ ((hr.al hb).wr 68 35 (some 95)) (hb.s.r (by omega))⟩
theorem cm_279 (hr : Rep σ 96 f g) (hb : Bl 96 f g) (hc : 1 ≤ c) (hsz : 400 ≤ s) (nx : ∀ σ', Rep σ' 97 f (up2 g 68 36 (some 96)) → Bl 97 f (up2 g 68 36 (some 96)) → Ev (d, c - 1, s - 400) 105 288 [aR (some 68)] [] σ' Q) : Ev (d, c, s) 105 279 [aR (some 68)] [] σ Q := by
  have hs := hr.s
  have k1 : kd 96 = (8, 400) := by decide
  simp only [v_105_279, v_105_280, v_105_283, v_105_285, hs, k1]
  exact ⟨hc, hsz, trivial, by decide, by decide, by decide, ⟨by rw [sn_alo, hs]; omega, by decide⟩, nx _ ((hr.al hb).wr 68 36 (some 96)) (hb.s.r (by omega))⟩
theorem cm_288 (hr : Rep σ 97 f g) (hb : Bl 97 f g) (hc : 1 ≤ c) (hsz : 8 ≤ s) (nx : ∀ σ', Rep σ' 98 f (up2 g 68 37 (some 97)) → Bl 98 f (up2 g 68 37 (some 97)) → Ev (d, c - 1, s - 8) 105 296 [aR (some 68)] [] σ' Q) : Ev (d, c, s) 105 288 [aR (some 68)] [] σ Q := by
  have hs := hr.s
  have k1 : kd 97 = (7, 8) := by decide
  simp only [v_105_288, v_105_289, v_105_291, v_105_293, hs, k1]
  exact ⟨hc, hsz, trivial, by decide, by decide, by decide, ⟨by rw [sn_alo, hs]; omega, by decide⟩, nx _ ((hr.al hb).wr 68 37 (some 97)) (hb.s.r (by omega))⟩
theorem cm_296 (hr : Rep σ 98 f g) (hb : Bl 98 f g) (nx : ∀ σ', Rep σ' 98 (up2 f 68 38 1) g → Bl 98 (up2 f 68 38 1) g → Ev (d, c, s) 105 301 [aR (some 68)] [] σ' Q) : Ev (d, c, s) 105 296 [aR (some 68)] [] σ Q := by
  have hs := hr.s
  simp only [v_105_296, v_105_297, v_105_298]
  exact ⟨⟨by rw [hs]; omega, by decide⟩, nx _ (hr.wi 68 38 1) (hb.i (by omega))⟩
theorem cm_301 (hr : Rep σ 98 f g) (hb : Bl 98 f g) (hc : 1 ≤ c) (hsz : 8000 ≤ s) (nx : ∀ σ', Rep σ' 99 f (up2 g 68 39 (some 98)) → Bl 99 f (up2 g 68 39 (some 98)) → Ev (d, c - 1, s - 8000) 105 310 [aR (some 68)] [] σ' Q) : Ev (d, c, s) 105 301 [aR (some 68)] [] σ Q := by
  have hs := hr.s
  have k1 : kd 98 = (7, 8000) := by decide
  simp only [v_105_301, v_105_302, v_105_305, v_105_307, hs, k1]
  exact ⟨hc, hsz, trivial, by decide, by decide, by decide, ⟨by rw [sn_alo, hs]; omega, by decide⟩, nx _ ((hr.al hb).wr 68 39 (some 98)) (hb.s.r (by omega))⟩
theorem cm_310 (hr : Rep σ 99 f g) (hb : Bl 99 f g) (hc : 1 ≤ c) (hsz : 20 ≤ s) (nx : ∀ σ', Rep σ' 100 f (up2 g 68 40 (some 99)) → Bl 100 f (up2 g 68 40 (some 99)) → Ev (d, c - 1, s - 20) 105 318 [aR (some 68)] [] σ' Q) : Ev (d, c, s) 105 310 [aR (some 68)] [] σ Q := by
  have hs := hr.s
  have k1 : kd 99 = (7, 20) := by decide
  simp only [v_105_310, v_105_311, v_105_313, v_105_315, hs, k1]
  exact ⟨hc, hsz, trivial, by decide, by decide, by decide, ⟨by rw [sn_alo, hs]; omega, by decide⟩, nx _ ((hr.al hb).wr 68 40 (some 99)) (hb.s.r (by omega))⟩
theorem cm_318 (hr : Rep σ 100 f g) (hb : Bl 100 f g) (hc : 1 ≤ c) (hsz : 20 ≤ s) (nx : ∀ σ', Rep σ' 101 f (up2 g 68 41 (some 100)) → Bl 101 f (up2 g 68 41 (some 100)) → Ev (d, c - 1, s - 20) 105 326 [aR (some 68)] [] σ' Q) : Ev (d, c, s) 105 318 [aR (some 68)] [] σ Q := by
  have hs := hr.s
  have k1 : kd 100 = (7, 20) := by decide
  simp only [v_105_318, v_105_319, v_105_321, v_105_323, hs, k1]
  exact ⟨hc, hsz, trivial, by decide, by decide, by decide, ⟨by rw [sn_alo, hs]; omega, by decide⟩, nx _ ((hr.al hb).wr 68 41 (some 100)) (hb.s.r (by omega))⟩
theorem cm_326 (hr : Rep σ 101 f g) (hb : Bl 101 f g) (nx : ∀ σ', Rep σ' 101 (up2 f 68 42 0) g → Bl 101 (up2 f 68 42 0) g → Ev (d, c, s) 105 331 [aR (some 68)] [] σ' Q) : Ev (d, c, s) 105 326 [aR (some 68)] [] σ Q := by
  have hs := hr.s
  simp only [v_105_326, v_105_327, v_105_328]
  exact ⟨⟨by rw [hs]; omega, by decide⟩, nx _ (hr.wi 68 42 0) (hb.i (by omega))⟩
theorem cm_331 (hr : Rep σ 101 f g) (hb : Bl 101 f g) (hc : 1 ≤ c) (hsz : 1536 ≤ s) (nx : ∀ σ', Rep σ' 102 f (up2 g 68 43 (some 101)) → Bl 102 f (up2 g 68 43 (some 101)) → Ev (d, c - 1, s - 1536) 105 340 [aR (some 68)] [] σ' Q) : Ev (d, c, s) 105 331 [aR (some 68)] [] σ Q := by
  have hs := hr.s
  have k1 : kd 101 = (7, 1536) := by decide
  simp only [v_105_331, v_105_332, v_105_335, v_105_337, hs, k1]
  exact ⟨hc, hsz, trivial, by decide, by decide, by decide, ⟨by rw [sn_alo, hs]; omega, by decide⟩, nx _ ((hr.al hb).wr 68 43 (some 101)) (hb.s.r (by omega))⟩
theorem cm_340 (hr : Rep σ 102 f g) (hb : Bl 102 f g) (hc : 1 ≤ c) (hsz : 48 ≤ s) (nx : ∀ σ', Rep σ' 103 f (up2 g 68 44 (some 102)) → Bl 103 f (up2 g 68 44 (some 102)) → Ev (d, c - 1, s - 48) 105 348 [aR (some 68)] [] σ' Q) : Ev (d, c, s) 105 340 [aR (some 68)] [] σ Q := by
  have hs := hr.s
  have k1 : kd 102 = (7, 48) := by decide
  simp only [v_105_340, v_105_341, v_105_343, v_105_345, hs, k1]
  exact ⟨hc, hsz, trivial, by decide, by decide, by decide, ⟨by rw [sn_alo, hs]; omega, by decide⟩, nx _ ((hr.al hb).wr 68 44 (some 102)) (hb.s.r (by omega))⟩
end
