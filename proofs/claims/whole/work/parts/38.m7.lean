/-! the reference: bounds, the sums -/
theorem RpB_i {σ : Sto} {a f k b : Nat} {v : Int32} {o : Nat → Option Int64} (h : RpB σ a f o) (hb : f ≠ b) : RpB (si σ b k v) a f o := by
  intro j hj
  have e : gi (si σ b k v) f = gi σ f := (same_si hb).1
  have := h j hj
  unfold oB at this ⊢
  rw [e]
  exact this
theorem RpB_l {σ : Sto} {a f k b : Nat} {v : Int64} {o : Nat → Option Int64} (h : RpB σ a f o) (hb : a ≠ b) : RpB (sl σ b k v) a f o := by
  intro j hj
  have e : gl (sl σ b k v) a = gl σ a := (same_sl hb).2.1
  have := h j hj
  unfold oB at this ⊢
  rw [gi_sl_r, e]
  exact this
theorem M_bounds3 {b : B3} {σ : Sto} {Q : Po} {S : Nat} {o : Nat → Option Int64} (hM : MB σ S) {u2 u3 u4 u5 : AV} : ∀ (n k : Nat) (σ1 : Sto), k + n = 36 → sc4 σ σ1 → RpB σ1 81 83 o → (∀ j, j < k → oB σ1 82 84 j = o j ∧ (gi σ1 84 j = 0 ∨ gi σ1 84 j = 1)) → (∀ σ2, sc4 σ σ2 → RpB σ2 81 83 o → RpB σ2 82 84 o → Ev b 129 180 [aR (some 68), aI (nI 36), u2, u3, u4, u5] [] σ2 Q) → Ev b 129 144 [aR (some 68), aI (nI k), u2, u3, u4, u5] [] σ1 Q := by
  intro n
  induction n with
  | zero =>
    intro k σ1 hk hs hR hz h
    have hk' : k = 36 := by omega
    subst hk'
    have hle : (36 : Int32) ≤ nI 36 := by decide
    rw [v_129_144]
    simp only [z10, z00, not_true_eq_false, not_false_eq_true, false_implies, true_implies, implies_true, nI_1, Int32.add_zero, true_or, or_true, true_and, and_true, eI_eq, eL_eq, eR_eq, eV_eq, lg_cmp_ge, lg_cmp_le, lg_cmp_gt, lg_cmp_lt, lg_cmp_eq, v_129_145, v_129_147, v_129_150, v_129_151, v_129_154, v_129_155, v_129_156, v_129_159, v_129_160, v_129_161, v_129_162, v_129_163, v_129_166, v_129_167, v_129_168, v_129_171, v_129_172, v_129_173, v_129_174, v_129_177, hle]
    exact h σ1 hs hR hz
  | succ n ih =>
    intro k σ1 hk hs hR hz h
    have hle : ¬ (36 : Int32) ≤ nI k := nI_ge (b := 36) (a := k) (by omega) (by omega)
    have hc : (nI k).toNatClampNeg = k := nI_clamp (by omega)
    have hM1 := hs.mb hM
    obtain ⟨r1, r2⟩ := hR k (by omega)
    have g84 : gi (sl σ1 82 k (gl σ1 81 k)) 83 k = gi σ1 83 k := rfl
    rw [v_129_144]
    simp only [z10, z00, not_true_eq_false, not_false_eq_true, false_implies, true_implies, implies_true, nI_1, Int32.add_zero, true_or, or_true, true_and, and_true, eI_eq, eL_eq, eR_eq, eV_eq, lg_cmp_ge, lg_cmp_le, lg_cmp_gt, lg_cmp_lt, lg_cmp_eq, v_129_145, v_129_147, v_129_150, v_129_151, v_129_154, v_129_155, v_129_156, v_129_159, v_129_160, v_129_161, v_129_162, v_129_163, v_129_166, v_129_167, v_129_168, v_129_171, v_129_172, v_129_173, v_129_174, v_129_177, hle, hM1.o, hM1.r19, hM1.r20, hM1.r21, hM1.r22, hM1.a81 (k := k) (by omega), hM1.a82 (k := k) (by omega), hM1.a83 (k := k) (by omega), hM1.a84 (k := k) (by omega), hc, okO_sl, okA_sl, gr_sl_r, g84]
    refine ⟨r2, ih (k + 1) _ (by omega) (hs.trans ((sc4.l (Or.inr (Eq.refl _))).trans (sc4.i (Or.inr (Eq.refl _))))) (RpB_i (RpB_l hR (by decide)) (by decide)) (fun j hj => ?_) h⟩
    rw [oB_si, gi_si]
    unfold up1
    by_cases e : j = k
    · subst e
      simp only [if_true]
      refine ⟨?_, r2⟩
      rw [← r1]
      unfold oB
      rw [gl_sl_r]
      simp [up1]
    · simp only [e, if_false]
      have := hz j (by omega)
      refine ⟨?_, this.2⟩
      rw [← this.1]
      unfold oB
      rw [gi_sl_r, gl_sl_r]
      simp [up1, e]
theorem M_bounds4y {b : B3} {σ : Sto} {Q : Po} {S : Nat} {o : Nat → Option Int64} (hM : MB σ S) {z x : Nat} (hz : z < 6) (hx : x < 6) : ∀ (n y : Nat) (σ1 : Sto) (f : Nat → Option Int64) (u4 u5 : AV), y + n = 6 → sc4 σ σ1 → RpB σ1 81 83 o → RpB σ1 82 84 f → (∀ σ2 u4 u5, sc4 σ σ2 → RpB σ2 81 83 o → RpB σ2 82 84 (itr (fun y o => fwS z x y o) y n f) → Ev b 129 322 [aR (some 68), aI (nI z), aI (nI x), aI (nI 6), u4, u5] [] σ2 Q) → Ev b 129 198 [aR (some 68), aI (nI z), aI (nI x), aI (nI y), u4, u5] [] σ1 Q := by
  intro n
  induction n with
  | zero =>
    intro y σ1 f u4 u5 hy hs hR hF h
    have hy' : y = 6 := by omega
    subst hy'
    have hle : (6 : Int32) ≤ nI 6 := by decide
    rw [v_129_198]
    simp only [z10, z00, not_true_eq_false, not_false_eq_true, false_implies, true_implies, implies_true, nI_1, Int32.add_zero, true_or, or_true, true_and, and_true, eI_eq, eL_eq, eR_eq, eV_eq, lg_cmp_ge, lg_cmp_le, lg_cmp_gt, lg_cmp_lt, lg_cmp_eq, v_129_199, v_129_201, v_129_204, v_129_205, v_129_208, v_129_210, v_129_211, v_129_212, v_129_213, v_129_214, v_129_215, v_129_218, v_129_219, v_129_222, v_129_224, v_129_225, v_129_226, v_129_227, v_129_228, v_129_229, v_129_232, v_129_235, v_129_236, v_129_239, v_129_241, v_129_242, v_129_243, v_129_244, v_129_245, v_129_246, v_129_247, v_129_250, v_129_252, v_129_253, v_129_254, v_129_255, v_129_256, v_129_257, v_129_258, v_129_260, v_129_261, v_129_264, v_129_266, v_129_267, v_129_268, v_129_269, v_129_270, v_129_271, v_129_274, v_129_276, v_129_277, v_129_280, v_129_282, v_129_283, v_129_284, v_129_285, v_129_286, v_129_287, v_129_288, v_129_291, v_129_292, v_129_295, v_129_297, v_129_298, v_129_299, v_129_300, v_129_301, v_129_303, v_129_304, v_129_305, v_129_308, v_129_310, v_129_311, v_129_312, v_129_313, v_129_314, v_129_315, v_129_316, v_129_319, hle]
    exact h σ1 u4 u5 hs hR hF
  | succ n ih =>
    intro y σ1 f u4 u5 hy hs hR hF h
    have hle : ¬ (6 : Int32) ≤ nI y := nI_ge (b := 6) (a := y) (by omega) (by omega)
    have hM1 := hs.mb hM
    have kxz : 6 * x + z < 36 := by omega
    have kzy : 6 * z + y < 36 := by omega
    have kxy : 6 * x + y < 36 := by omega
    have cxz : (nI (6 * x + z)).toNatClampNeg = 6 * x + z := nI_clamp (by omega)
    have czy : (nI (6 * z + y)).toNatClampNeg = 6 * z + y := nI_clamp (by omega)
    have cxy : (nI (6 * x + y)).toNatClampNeg = 6 * x + y := nI_clamp (by omega)
    obtain ⟨rxz, qxz⟩ := hF _ kxz
    obtain ⟨rzy, qzy⟩ := hF _ kzy
    have e3 : itr (fun y o => fwS z x y o) y (n + 1) f = itr (fun y o => fwS z x y o) (y + 1) n (fwS z x y f) := Eq.refl _
    rw [v_129_198]
    simp only [z10, z00, not_true_eq_false, not_false_eq_true, false_implies, true_implies, implies_true, nI_1, Int32.add_zero, true_or, or_true, true_and, and_true, eI_eq, eL_eq, eR_eq, eV_eq, lg_cmp_ge, lg_cmp_le, lg_cmp_gt, lg_cmp_lt, lg_cmp_eq, v_129_199, v_129_201, v_129_204, v_129_205, v_129_208, v_129_210, v_129_211, v_129_212, v_129_213, v_129_214, v_129_215, v_129_218, v_129_219, v_129_222, v_129_224, v_129_225, v_129_226, v_129_227, v_129_228, v_129_229, v_129_232, v_129_235, v_129_236, v_129_239, v_129_241, v_129_242, v_129_243, v_129_244, v_129_245, v_129_246, v_129_247, v_129_250, v_129_252, v_129_253, v_129_254, v_129_255, v_129_256, v_129_257, v_129_258, v_129_260, v_129_261, v_129_264, v_129_266, v_129_267, v_129_268, v_129_269, v_129_270, v_129_271, v_129_274, v_129_276, v_129_277, v_129_280, v_129_282, v_129_283, v_129_284, v_129_285, v_129_286, v_129_287, v_129_288, v_129_291, v_129_292, v_129_295, v_129_297, v_129_298, v_129_299, v_129_300, v_129_301, v_129_303, v_129_304, v_129_305, v_129_308, v_129_310, v_129_311, v_129_312, v_129_313, v_129_314, v_129_315, v_129_316, v_129_319, hle, ix6, hM1.o, hM1.r20, hM1.r22, hM1.a82 (k := _) kxz, hM1.a84 (k := _) kxz, hM1.a82 (k := _) kzy, hM1.a84 (k := _) kzy, hM1.a82 (k := _) kxy, hM1.a84 (k := _) kxy, cxz, czy, cxy, okO_sl, okA_sl, gr_sl_r]
    have skip : f (6 * x + z) = none ∨ f (6 * z + y) = none → fwS z x y f = f := fun g => by
      unfold fwS
      rcases g with g | g
      · rw [g]
      · rw [g]; split <;> first | rfl | (rename_i h1 h2; cases h2)
    refine ⟨fun g => ?_, fun g => ⟨fun g2 => ?_, fun g2 => ?_⟩⟩
    · refine ih (y + 1) σ1 f u4 u5 (by omega) hs hR hF (fun σ2 u4 u5 q1 q2 q3 => h σ2 u4 u5 q1 q2 ?_)
      rw [e3, skip (Or.inl (by rw [← rxz]; unfold oB; rw [if_pos g]))]
      exact q3
    · have ea : f (6 * x + z) = some (gl σ1 82 (6 * x + z)) := by rw [← rxz]; unfold oB; rw [if_neg g]
      have eb : f (6 * z + y) = some (gl σ1 82 (6 * z + y)) := by rw [← rzy]; unfold oB; rw [if_neg g2]
      have ef : fwS z x y f = up1 f (6 * x + y) (lowO (f (6 * x + y)) (gl σ1 82 (6 * x + z) + gl σ1 82 (6 * z + y))) := by
        unfold fwS
        rw [ea, eb]
      have key := RpB_tell (v := gl σ1 82 (6 * x + z) + gl σ1 82 (6 * z + y)) hF kxy
      refine ⟨fun g3 => ?_, fun g3 => ⟨fun g4 => ?_, fun g4 => ?_⟩⟩
      · rw [if_pos (Or.inl g3)] at key
        exact ih (y + 1) _ _ _ _ (by omega) (hs.trans ((sc4.l (Or.inr (Eq.refl _))).trans (sc4.i (Or.inr (Eq.refl _))))) (RpB_i (RpB_l hR (by decide)) (by decide)) key (fun σ2 u4 u5 q1 q2 q3 => h σ2 u4 u5 q1 q2 (by rw [e3, ef]; exact q3))
      · rw [if_neg (fun w => w.elim g3 (fun w => (Int64.not_lt.mpr g4) w))] at key
        exact ih (y + 1) _ _ _ _ (by omega) (hs.trans (sc4.i (Or.inr (Eq.refl _)))) (RpB_i hR (by decide)) key (fun σ2 u4 u5 q1 q2 q3 => h σ2 u4 u5 q1 q2 (by rw [e3, ef]; exact q3))
      · rw [if_pos (Or.inr (Int64.not_le.mp g4))] at key
        exact ih (y + 1) _ _ _ _ (by omega) (hs.trans ((sc4.l (Or.inr (Eq.refl _))).trans (sc4.i (Or.inr (Eq.refl _))))) (RpB_i (RpB_l hR (by decide)) (by decide)) key (fun σ2 u4 u5 q1 q2 q3 => h σ2 u4 u5 q1 q2 (by rw [e3, ef]; exact q3))
    · refine ih (y + 1) σ1 f u4 u5 (by omega) hs hR hF (fun σ2 u4 u5 q1 q2 q3 => h σ2 u4 u5 q1 q2 ?_)
      rw [e3, skip (Or.inr (by rw [← rzy]; unfold oB; rw [if_pos g2]))]
      exact q3
theorem M_bounds4x {b : B3} {σ : Sto} {Q : Po} {S : Nat} {o : Nat → Option Int64} (hM : MB σ S) {z : Nat} (hz : z < 6) : ∀ (n x : Nat) (σ1 : Sto) (f : Nat → Option Int64) (u3 u4 u5 : AV), x + n = 6 → sc4 σ σ1 → RpB σ1 81 83 o → RpB σ1 82 84 f → (∀ σ2 u3 u4 u5, sc4 σ σ2 → RpB σ2 81 83 o → RpB σ2 82 84 (itr (fun x o => itr (fun y o => fwS z x y o) 0 6 o) x n f) → Ev b 129 328 [aR (some 68), aI (nI z), aI (nI 6), u3, u4, u5] [] σ2 Q) → Ev b 129 190 [aR (some 68), aI (nI z), aI (nI x), u3, u4, u5] [] σ1 Q := by
  intro n
  induction n with
  | zero =>
    intro x σ1 f u3 u4 u5 hx hs hR hF h
    have hx' : x = 6 := by omega
    subst hx'
    have hle : (6 : Int32) ≤ nI 6 := by decide
    rw [v_129_190]
    simp only [z10, z00, not_true_eq_false, not_false_eq_true, false_implies, true_implies, implies_true, nI_1, Int32.add_zero, true_or, or_true, true_and, and_true, eI_eq, eL_eq, eR_eq, eV_eq, lg_cmp_ge, lg_cmp_le, lg_cmp_gt, lg_cmp_lt, lg_cmp_eq, v_129_191, v_129_193, v_129_196, v_129_197, hle]
    exact h σ1 u3 u4 u5 hs hR hF
  | succ n ih =>
    intro x σ1 f u3 u4 u5 hx hs hR hF h
    have hle : ¬ (6 : Int32) ≤ nI x := nI_ge (b := 6) (a := x) (by omega) (by omega)
    rw [v_129_190]
    simp only [z10, z00, not_true_eq_false, not_false_eq_true, false_implies, true_implies, implies_true, nI_1, Int32.add_zero, true_or, or_true, true_and, and_true, eI_eq, eL_eq, eR_eq, eV_eq, lg_cmp_ge, lg_cmp_le, lg_cmp_gt, lg_cmp_lt, lg_cmp_eq, v_129_191, v_129_193, v_129_196, v_129_197, hle]
    have := M_bounds4y (b := b) (Q := Q) (o := o) hM hz (show x < 6 by omega) 6 0 σ1 f u4 u5 (by omega) hs hR hF (fun σ2 u4 u5 q1 q2 q3 => by
      rw [v_129_322]
      simp only [z10, z00, not_true_eq_false, not_false_eq_true, false_implies, true_implies, implies_true, nI_1, Int32.add_zero, true_or, or_true, true_and, and_true, eI_eq, eL_eq, eR_eq, eV_eq, lg_cmp_ge, lg_cmp_le, lg_cmp_gt, lg_cmp_lt, lg_cmp_eq, v_129_325]
      exact ih (x + 1) σ2 _ _ _ _ (by omega) q1 q2 q3 h)
    simpa only [nI_0] using this
theorem M_bounds4z {b : B3} {σ : Sto} {K : Sto → Prop} {S : Nat} {o : Nat → Option Int64} (hM : MB σ S) : ∀ (n z : Nat) (σ1 : Sto) (f : Nat → Option Int64) (u2 u3 u4 u5 : AV), z + n = 6 → sc4 σ σ1 → RpB σ1 81 83 o → RpB σ1 82 84 f → (∀ σ2, sc4 σ σ2 → RpB σ2 81 83 o → RpB σ2 82 84 (itr (fun z o => itr (fun x o => itr (fun y o => fwS z x y o) 0 6 o) 0 6 o) z n f) → K σ2) → Ev b 129 182 [aR (some 68), aI (nI z), u2, u3, u4, u5] [] σ1 (eV K) := by
  intro n
  induction n with
  | zero =>
    intro z σ1 f u2 u3 u4 u5 hz hs hR hF h
    have hz' : z = 6 := by omega
    subst hz'
    have hle : (6 : Int32) ≤ nI 6 := by decide
    rw [v_129_182]
    simp only [z10, z00, not_true_eq_false, not_false_eq_true, false_implies, true_implies, implies_true, nI_1, Int32.add_zero, true_or, or_true, true_and, and_true, eI_eq, eL_eq, eR_eq, eV_eq, lg_cmp_ge, lg_cmp_le, lg_cmp_gt, lg_cmp_lt, lg_cmp_eq, v_129_183, v_129_185, v_129_188, v_129_189, v_129_334, hle]
    exact h σ1 hs hR hF
  | succ n ih =>
    intro z σ1 f u2 u3 u4 u5 hz hs hR hF h
    have hle : ¬ (6 : Int32) ≤ nI z := nI_ge (b := 6) (a := z) (by omega) (by omega)
    rw [v_129_182]
    simp only [z10, z00, not_true_eq_false, not_false_eq_true, false_implies, true_implies, implies_true, nI_1, Int32.add_zero, true_or, or_true, true_and, and_true, eI_eq, eL_eq, eR_eq, eV_eq, lg_cmp_ge, lg_cmp_le, lg_cmp_gt, lg_cmp_lt, lg_cmp_eq, v_129_183, v_129_185, v_129_188, v_129_189, hle]
    have := M_bounds4x (b := b) (Q := eV K) (o := o) hM (show z < 6 by omega) 6 0 σ1 f u3 u4 u5 (by omega) hs hR hF (fun σ2 u3 u4 u5 q1 q2 q3 => by
      rw [v_129_328]
      simp only [z10, z00, not_true_eq_false, not_false_eq_true, false_implies, true_implies, implies_true, nI_1, Int32.add_zero, true_or, or_true, true_and, and_true, eI_eq, eL_eq, eR_eq, eV_eq, lg_cmp_ge, lg_cmp_le, lg_cmp_gt, lg_cmp_lt, lg_cmp_eq, v_129_331]
      exact ih (z + 1) σ2 _ _ _ _ _ (by omega) q1 q2 q3 h)
    simpa only [nI_0] using this
/-- the bounds of all rows, and their sums -/
def bdA (σ : Sto) (S : Nat) : Nat → Option Int64 := itr (bdS σ S) 0 S (fun _ => none)
theorem M_bounds {d : Nat} {σ : Sto} {K : Sto → Prop} {S : Nat} (hM : MB σ S) (hV : ∀ k, k < S → okV (rwM σ k)) (h : ∀ σ2, sc4 σ σ2 → RpB σ2 81 83 (bdA σ S) → RpB σ2 82 84 (fwA (bdA σ S)) → K σ2) : CV (d + 3) 129 [aR (some 68)] σ K := by
  refine CV_of ?_
  show Ev (d + 3, 0, 0) 129 0 [aR (some 68), aU, aU, aU, aU, aU] [] σ _
  simp only [v_129_0, v_129_1]
  rw [← nI_0]
  refine M_bounds1 hM 36 0 σ (by omega) (sc4.rfl σ) (fun j hj => by omega) (fun σ2 q1 q2 => ?_)
  simp only [v_129_21, v_129_22]
  rw [← nI_0]
  refine M_bounds2 hM hV S 0 σ2 _ _ _ _ _ (by omega) q1 q2 (fun σ3 u2 u3 u4 u5 q1 q2 => ?_)
  simp only [v_129_142, v_129_143]
  rw [← nI_0]
  refine M_bounds3 hM 36 0 σ3 (by omega) q1 q2 (fun j hj => by omega) (fun σ4 q1 q2 q3 => ?_)
  simp only [v_129_180, v_129_181]
  rw [← nI_0]
  exact M_bounds4z hM 6 0 σ4 _ _ _ _ _ (by omega) q1 q2 q3 h
