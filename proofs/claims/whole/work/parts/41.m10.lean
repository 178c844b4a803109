/-! the reference: put -/
def ptS (f : Nat → Option Int64) (mv : Nat → Int64) (x y : Nat) (p : Int64 × Int64) : Int64 × Int64 :=
  ((match f (6 * y + x) with
    | none => p.1
    | some v => if p.1 < mv y - v then mv y - v else p.1), (match f (6 * x + y) with
    | none => p.2
    | some v => if mv y + v < p.2 then mv y + v else p.2))
def ptV (p : Int64 × Int64) : Int64 := if 0 < p.1 then p.1 else if p.2 < 0 then p.2 else 0
def ptW (f : Nat → Option Int64) (mv : Nat → Int64) (x : Nat) : Int64 := ptV (itr (ptS f mv x) 0 x (-100000000000000, 100000000000000))
def ptX (f : Nat → Option Int64) (x : Nat) (q : (Nat → Int64) × Nat) : (Nat → Int64) × Nat := (up1 q.1 x (ptW f q.1 x), q.2 + if ptW f q.1 x = q.1 x then 0 else 1)
theorem M_put_in {b : B3} {σ : Sto} {Q : Po} {S : Nat} {f : Nat → Option Int64} (hM : MB σ S) (hF : RpB σ 82 84 f) {x : Nat} (hx : x < 6) {c : Int32} {was : Int64} : ∀ (n y : Nat) (le mo : Int64), y + n = x → Ev b 135 178 [aR (some 68), aI c, aI (nI x), aL was, aU, aL (itr (ptS f (gl σ 86) x) y n (le, mo)).1, aU, aL (itr (ptS f (gl σ 86) x) y n (le, mo)).2, aU, aI (nI x)] [] σ Q → Ev b 135 40 [aR (some 68), aI c, aI (nI x), aL was, aU, aL le, aU, aL mo, aU, aI (nI y)] [] σ Q := by
  intro n
  induction n with
  | zero =>
    intro y le mo hy h
    have hy' : y = x := by omega
    subst hy'
    have hle : nI y ≤ nI y := Int32.le_refl _
    rw [v_135_40]
    simp only [z10, z00, not_true_eq_false, not_false_eq_true, false_implies, true_implies, implies_true, nI_1, Int32.add_zero, true_or, or_true, true_and, and_true, eI_eq, eL_eq, eR_eq, eV_eq, lg_cmp_ge, lg_cmp_le, lg_cmp_gt, lg_cmp_lt, lg_cmp_eq, v_135_42, v_135_43, v_135_46, v_135_47, v_135_50, v_135_52, v_135_53, v_135_54, v_135_56, v_135_57, v_135_58, v_135_61, v_135_62, v_135_65, v_135_67, v_135_68, v_135_69, v_135_72, v_135_74, v_135_75, v_135_76, v_135_78, v_135_79, v_135_80, v_135_81, v_135_83, v_135_84, v_135_87, v_135_88, v_135_91, v_135_93, v_135_94, v_135_95, v_135_98, v_135_100, v_135_101, v_135_102, v_135_104, v_135_105, v_135_106, v_135_107, v_135_109, v_135_110, v_135_113, v_135_115, v_135_117, v_135_118, v_135_119, v_135_120, v_135_121, v_135_124, v_135_125, v_135_128, v_135_130, v_135_131, v_135_132, v_135_135, v_135_137, v_135_139, v_135_140, v_135_141, v_135_142, v_135_143, v_135_144, v_135_146, v_135_147, v_135_150, v_135_151, v_135_154, v_135_156, v_135_157, v_135_158, v_135_161, v_135_163, v_135_165, v_135_166, v_135_167, v_135_168, v_135_169, v_135_170, v_135_172, v_135_175, hle]
    exact h
  | succ n ih =>
    intro y le mo hy h
    have hle : ¬ nI x ≤ nI y := nI_ge (by omega) (by omega)
    have kxy : 6 * x + y < 36 := by omega
    have kyx : 6 * y + x < 36 := by omega
    have cxy : (nI (6 * x + y)).toNatClampNeg = 6 * x + y := nI_clamp (by omega)
    have cyx : (nI (6 * y + x)).toNatClampNeg = 6 * y + x := nI_clamp (by omega)
    have cy : (nI y).toNatClampNeg = y := nI_clamp (by omega)
    obtain ⟨r1, -⟩ := hF _ kxy
    obtain ⟨r2, -⟩ := hF _ kyx
    have e3 : itr (ptS f (gl σ 86) x) y (n + 1) (le, mo) = itr (ptS f (gl σ 86) x) (y + 1) n (ptS f (gl σ 86) x y (le, mo)) := rfl
    rw [e3] at h
    rw [v_135_40]
    simp only [z10, z00, not_true_eq_false, not_false_eq_true, false_implies, true_implies, implies_true, nI_1, Int32.add_zero, true_or, or_true, true_and, and_true, eI_eq, eL_eq, eR_eq, eV_eq, lg_cmp_ge, lg_cmp_le, lg_cmp_gt, lg_cmp_lt, lg_cmp_eq, v_135_42, v_135_43, v_135_46, v_135_47, v_135_50, v_135_52, v_135_53, v_135_54, v_135_56, v_135_57, v_135_58, v_135_61, v_135_62, v_135_65, v_135_67, v_135_68, v_135_69, v_135_72, v_135_74, v_135_75, v_135_76, v_135_78, v_135_79, v_135_80, v_135_81, v_135_83, v_135_84, v_135_87, v_135_88, v_135_91, v_135_93, v_135_94, v_135_95, v_135_98, v_135_100, v_135_101, v_135_102, v_135_104, v_135_105, v_135_106, v_135_107, v_135_109, v_135_110, v_135_113, v_135_115, v_135_117, v_135_118, v_135_119, v_135_120, v_135_121, v_135_124, v_135_125, v_135_128, v_135_130, v_135_131, v_135_132, v_135_135, v_135_137, v_135_139, v_135_140, v_135_141, v_135_142, v_135_143, v_135_144, v_135_146, v_135_147, v_135_150, v_135_151, v_135_154, v_135_156, v_135_157, v_135_158, v_135_161, v_135_163, v_135_165, v_135_166, v_135_167, v_135_168, v_135_169, v_135_170, v_135_172, v_135_175, hle, ix6, hM.o, hM.r20, hM.r22, hM.r24, hM.a82 (k := _) kxy, hM.a84 (k := _) kxy, hM.a82 (k := _) kyx, hM.a84 (k := _) kyx, hM.a86 (k := y) (by omega), cxy, cyx, cy]
    have fin : ∀ le' mo', ptS f (gl σ 86) x y (le, mo) = (le', mo') → Ev b 135 40 [aR (some 68), aI c, aI (nI x), aL was, aU, aL le', aU, aL mo', aU, aI (nI (y + 1))] [] σ Q := fun le' mo' e => ih (y + 1) le' mo' (by omega) (by rw [← e]; exact h)
    have rest : ∀ mo', (∀ le', (match f (6 * y + x) with
        | none => le
        | some v => if le < gl σ 86 y - v then gl σ 86 y - v else le) = le' → ptS f (gl σ 86) x y (le, mo) = (le', mo')) →
        (gi σ 84 (6 * y + x) = 0 → Ev b 135 40 [aR (some 68), aI c, aI (nI x), aL was, aU, aL le, aU, aL mo', aU, aI (nI (y + 1))] [] σ Q) ∧ (¬ gi σ 84 (6 * y + x) = 0 → (gl σ 86 y - gl σ 82 (6 * y + x) ≤ le → Ev b 135 40 [aR (some 68), aI c, aI (nI x), aL was, aU, aL le, aU, aL mo', aU, aI (nI (y + 1))] [] σ Q) ∧ (¬ gl σ 86 y - gl σ 82 (6 * y + x) ≤ le → Ev b 135 40 [aR (some 68), aI c, aI (nI x), aL was, aU, aL (gl σ 86 y - gl σ 82 (6 * y + x)), aU, aL mo', aU, aI (nI (y + 1))] [] σ Q)) := by
      intro mo' hmo
      refine ⟨fun g => fin le mo' (hmo le ?_), fun g => ⟨fun g2 => fin le mo' (hmo le ?_), fun g2 => fin _ mo' (hmo _ ?_)⟩⟩
      · rw [← r2]; unfold oB; rw [if_pos g]
      · rw [← r2]; unfold oB; rw [if_neg g]; simp only; rw [if_neg (Int64.not_lt.mpr g2)]
      · rw [← r2]; unfold oB; rw [if_neg g]; simp only; rw [if_pos (Int64.not_le.mp g2)]
    refine ⟨fun g => rest mo (fun le' e => ?_), fun g => ⟨fun g2 => rest mo (fun le' e => ?_), fun g2 => rest _ (fun le' e => ?_)⟩⟩
    · unfold ptS; rw [e, ← r1]; unfold oB; rw [if_pos g]
    · unfold ptS; rw [e, ← r1]; unfold oB; rw [if_neg g]; simp only; rw [if_neg (Int64.not_lt.mpr g2)]
    · unfold ptS; rw [e, ← r1]; unfold oB; rw [if_neg g]; simp only; rw [if_pos (Int64.not_le.mp g2)]
/-- nothing but what is added to the clocks is written -/
def scM (σ σ' : Sto) : Prop := sn σ' = sn σ ∧ gr σ' = gr σ ∧ gi σ' = gi σ ∧ (∀ a, a ≠ 86 → gl σ' a = gl σ a)
theorem M_put_loop {b : B3} {σ : Sto} {K : Int32 → Sto → Prop} {S : Nat} {f : Nat → Option Int64} (hM : MB σ S) (hF : RpB σ 82 84 f) : ∀ (n x c : Nat) (σ1 : Sto) (u3 u4 u5 u6 u7 u8 u9 : AV), x + n = 6 → scM σ σ1 → (∀ σ2, scM σ σ2 → gl σ2 86 = (itr (ptX f) x n (gl σ1 86, c)).1 → K (nI (itr (ptX f) x n (gl σ1 86, c)).2) σ2) → Ev b 135 14 [aR (some 68), aI (nI c), aI (nI x), u3, u4, u5, u6, u7, u8, u9] [] σ1 (eI K) := by
  intro n
  induction n with
  | zero =>
    intro x c σ1 u3 u4 u5 u6 u7 u8 u9 hx hs h
    have hx' : x = 6 := by omega
    subst hx'
    have hle : (6 : Int32) ≤ nI 6 := by decide
    rw [v_135_14]
    simp only [z10, z00, not_true_eq_false, not_false_eq_true, false_implies, true_implies, implies_true, nI_1, Int32.add_zero, true_or, or_true, true_and, and_true, eI_eq, eL_eq, eR_eq, eV_eq, lg_cmp_ge, lg_cmp_le, lg_cmp_gt, lg_cmp_lt, lg_cmp_eq, v_135_15, v_135_17, v_135_20, v_135_21, v_135_24, v_135_25, v_135_26, v_135_27, v_135_30, v_135_32, v_135_35, v_135_37, v_135_234, v_135_235, hle]
    exact h σ1 hs rfl
  | succ n ih =>
    intro x c σ1 u3 u4 u5 u6 u7 u8 u9 hx hs h
    have hle : ¬ (6 : Int32) ≤ nI x := nI_ge (b := 6) (a := x) (by omega) (by omega)
    have cx : (nI x).toNatClampNeg = x := nI_clamp (by omega)
    have hM1 : MB σ1 S := by
      unfold MB at hM ⊢
      rw [hs.1, hs.2.1, hs.2.2.1]
      exact hM
    have hF1 : RpB σ1 82 84 f := by
      intro k hk
      have := hF k hk
      unfold oB at this ⊢
      rw [hs.2.2.1, hs.2.2.2 82 (by decide)]
      exact this
    rw [v_135_14]
    simp only [z10, z00, not_true_eq_false, not_false_eq_true, false_implies, true_implies, implies_true, nI_1, Int32.add_zero, true_or, or_true, true_and, and_true, eI_eq, eL_eq, eR_eq, eV_eq, lg_cmp_ge, lg_cmp_le, lg_cmp_gt, lg_cmp_lt, lg_cmp_eq, v_135_15, v_135_17, v_135_20, v_135_21, v_135_24, v_135_25, v_135_26, v_135_27, v_135_30, v_135_32, v_135_35, v_135_37, v_135_38, hle, hM1.o, hM1.r24, hM1.a86 (k := x) (by omega), cx]
    rw [← nI_0]
    refine M_put_in hM1 hF1 (by omega) x 0 _ _ (by omega) ?_
    generalize hq : itr (ptS f (gl σ1 86) x) 0 x (-100000000000000, 100000000000000) = q
    have eW : ptW f (gl σ1 86) x = ptV q := by unfold ptW; rw [hq]
    have e3 : itr (ptX f) x (n + 1) (gl σ1 86, c) = itr (ptX f) (x + 1) n (up1 (gl σ1 86) x (ptV q), c + if ptV q = gl σ1 86 x then 0 else 1) := by
      show itr (ptX f) (x + 1) n (ptX f x (gl σ1 86, c)) = _
      unfold ptX
      rw [eW]
    rw [e3] at h
    have fin : ∀ v, v = ptV q → okA σ1 86 8 (nI x) ∧ (v = gl σ1 86 x → Ev b 135 14 [aR (some 68), aI (nI c), aI (nI (x + 1)), aL (gl σ1 86 x), aU, aL q.1, aU, aL q.2, aU, aI (nI x)] [] (sl σ1 86 x v) (eI K)) ∧ (¬ v = gl σ1 86 x → Ev b 135 14 [aR (some 68), aI (nI (c + 1)), aI (nI (x + 1)), aL (gl σ1 86 x), aU, aL q.1, aU, aL q.2, aU, aI (nI x)] [] (sl σ1 86 x v) (eI K)) := by
      intro v ev
      have hs2 : scM σ (sl σ1 86 x v) := ⟨hs.1, hs.2.1, hs.2.2.1, fun a ha => by rw [(same_sl ha).2.1]; exact hs.2.2.2 a ha⟩
      refine ⟨hM1.a86 (by omega), fun g => ih (x + 1) c _ _ _ _ _ _ _ _ (by omega) hs2 ?_, fun g => ih (x + 1) (c + 1) _ _ _ _ _ _ _ _ (by omega) hs2 ?_⟩
      · rw [gl_sl]
        rw [← ev, if_pos g] at h
        exact h
      · rw [gl_sl]
        rw [← ev, if_neg g] at h
        exact h
    have e86 : ∀ v, gl (sl σ1 86 x v) 86 x = v := fun v => by rw [gl_sl]; simp [up1]
    simp only [z10, z00, not_true_eq_false, not_false_eq_true, false_implies, true_implies, implies_true, nI_1, Int32.add_zero, true_or, or_true, true_and, and_true, eI_eq, eL_eq, eR_eq, eV_eq, lg_cmp_ge, lg_cmp_le, lg_cmp_gt, lg_cmp_lt, lg_cmp_eq, v_135_178, v_135_179, v_135_182, v_135_183, v_135_185, v_135_186, v_135_187, v_135_190, v_135_192, v_135_195, v_135_197, v_135_198, v_135_199, v_135_202, v_135_204, v_135_207, v_135_208, v_135_209, v_135_210, v_135_211, v_135_214, v_135_215, v_135_216, v_135_217, v_135_218, v_135_221, v_135_222, v_135_225, v_135_226, v_135_227, v_135_228, v_135_231, hM1.o, hM1.r24, cx, okO_sl, okA_sl, gr_sl_r, e86]
    unfold ptV at fin
    refine ⟨fun g => ⟨fun g2 => ?_, fun g2 => ?_⟩, fun g => ?_⟩
    · have := fin 0 (by rw [if_neg (Int64.not_lt.mpr g), if_neg (Int64.not_lt.mpr g2)])
      exact ⟨this.1, this.1, this.2.1, this.2.2⟩
    · have := fin q.2 (by rw [if_neg (Int64.not_lt.mpr g), if_pos (Int64.not_le.mp g2)])
      exact ⟨this.1, this.1, this.2.1, this.2.2⟩
    · have := fin q.1 (by rw [if_pos (Int64.not_le.mp g)])
      exact ⟨this.1, this.1, this.2.1, this.2.2⟩
theorem M_put {d : Nat} {σ : Sto} {K : Int32 → Sto → Prop} {S : Nat} (hM : MB σ S) (hV : ∀ k, k < S → okV (rwM σ k)) (h0 : agB (fwA (bdA σ S)) = false → ∀ σ2, sc4 σ σ2 → K (-3) σ2) (h : agB (fwA (bdA σ S)) = true → ∀ σ1 σ2, sc4 σ σ1 → scM σ1 σ2 → gl σ2 86 = (itr (ptX (fwA (bdA σ S))) 0 6 (gl σ 86, 0)).1 → K (nI (itr (ptX (fwA (bdA σ S))) 0 6 (gl σ 86, 0)).2) σ2) : CI (d + 5) 135 [aR (some 68)] σ K := by
  refine CI_of ?_
  show Ev (d + 5, 0, 0) 135 0 [aR (some 68), aU, aU, aU, aU, aU, aU, aU, aU, aU] [] σ _
  simp only [z10, z00, not_true_eq_false, not_false_eq_true, false_implies, true_implies, implies_true, nI_1, Int32.add_zero, true_or, or_true, true_and, and_true, eI_eq, eL_eq, eR_eq, eV_eq, lg_cmp_ge, lg_cmp_le, lg_cmp_gt, lg_cmp_lt, lg_cmp_eq, v_135_0, v_135_1, v_135_4, v_135_7, v_135_9, v_135_10, v_135_11, v_135_12, v_135_13, hM.o]
  refine M_agree hM hV (fun σ2 q1 q2 q3 => ?_)
  cases hag : agB (fwA (bdA σ S)) with
  | false =>
    simp only [bI, Bool.false_eq_true, if_false, z10, z00, not_true_eq_false, not_false_eq_true, false_implies, true_implies, implies_true, true_and, and_true, true_or, or_true, false_and, and_false, false_or, or_false]
    exact h0 hag σ2 q1
  | true =>
    simp only [bI, if_true, z10, z00, not_true_eq_false, not_false_eq_true, false_implies, true_implies, implies_true, true_and, and_true, true_or, or_true, false_and, and_false, false_or, or_false]
    have e : gl σ2 86 = gl σ 86 := q1.2.2.2 86 (by decide) (by decide)
    have := M_put_loop (b := (d + 5, 0, 0)) (K := K) (q1.mb hM) q3 6 0 0 σ2 aU aU aU aU aU aU aU (by omega) ⟨rfl, rfl, rfl, fun _ _ => rfl⟩ (fun σ3 g1 g2 => by
      rw [e] at g2 ⊢
      exact h hag σ2 σ3 q1 g1 g2)
    simpa only [nI_0] using this
