/-! the class: clocks set, tried -/
def mxR (le w : Int64) : Int64 := if w < le then le else w
def mnR (ge w : Int64) : Int64 := if w < ge then w else ge
def npL (f : Option Int64) (le m : Int64) : Int64 := match f with
  | none => le
  | some v => mxR le (m - v)
def npG (f : Option Int64) (ge m : Int64) : Int64 := match f with
  | none => ge
  | some v => mnR ge (m + v)
def npS (f : Nat → Option Int64) (mv : Nat → Int64) (x y : Nat) (p : Int64 × Int64) : Int64 × Int64 := (npL (f (6 * y + x)) p.1 (mv y), npG (f (6 * x + y)) p.2 (mv y))
def npV (p : Int64 × Int64) : Int64 := mxR p.1 (mnR p.2 0)
def npW (f : Nat → Option Int64) (mv : Nat → Int64) (x : Nat) : Int64 := npV (itr (npS f mv x) 0 x (-9223372036854775808, 9223372036854775807))
def npX (f : Nat → Option Int64) (x : Nat) (q : (Nat → Int64) × Nat) : (Nat → Int64) × Nat := (up1 q.1 x (npW f q.1 x), q.2 + if npW f q.1 x = q.1 x then 0 else 1)
theorem X_nearestTo0_loop {d : Nat} {σ : Sto} {K : Int64 → Sto → Prop} {x : Nat} {f : Nat → Option Int64} (hX : XB σ) (hR : RpX σ 9 f) (hx : x < 6) : ∀ (n y : Nat) (le ge : Int64) (u7 u8 u9 u10 : AV), y + n = x → K (npV (itr (npS f (gl σ 10) x) y n (le, ge))) σ → Ev (d + 1, 0, 0) 11 12 [aR (some 7), aI (nI x), aL le, aU, aL ge, aU, aI (nI y), u7, u8, u9, u10] [] σ (eL K) := by
  intro n
  induction n with
  | zero =>
    intro y le ge u7 u8 u9 u10 hy h
    have hy' : y = x := by omega
    subst hy'
    have hle : nI y ≤ nI y := Int32.le_refl _
    rw [v_11_12]
    simp only [z10, z00, not_true_eq_false, not_false_eq_true, false_implies, true_implies, implies_true, nI_1, Int32.add_zero, true_or, or_true, true_and, and_true, eI_eq, eL_eq, eR_eq, eV_eq, lg_cmp_ge, lg_cmp_le, lg_cmp_gt, lg_cmp_lt, lg_cmp_eq, v_11_14, v_11_15, z10, z00, not_true_eq_false, not_false_eq_true, false_implies, true_implies, implies_true, nI_1, Int32.add_zero, true_or, or_true, true_and, and_true, eI_eq, eL_eq, eR_eq, eV_eq, lg_cmp_ge, lg_cmp_le, lg_cmp_gt, lg_cmp_lt, lg_cmp_eq, v_11_111, v_11_112, v_11_114, v_11_115, v_11_118, v_11_121, hle]
    exact h
  | succ n ih =>
    intro y le ge u7 u8 u9 u10 hy h
    have hle : ¬ nI x ≤ nI y := nI_ge (by omega) (by omega)
    have kxy : 6 * x + y < 36 := by omega
    have kyx : 6 * y + x < 36 := by omega
    have c1 : (nI (6 * x + y)).toNatClampNeg = 6 * x + y := nI_clamp (by omega)
    have c2 : (nI (6 * y + x)).toNatClampNeg = 6 * y + x := nI_clamp (by omega)
    have cy : (nI y).toNatClampNeg = y := nI_clamp (by omega)
    obtain ⟨r1, r2⟩ := hR _ kxy
    obtain ⟨r3, r4⟩ := hR _ kyx
    have e3 : itr (npS f (gl σ 10) x) y (n + 1) (le, ge) = itr (npS f (gl σ 10) x) (y + 1) n (npL (f (6 * y + x)) le (gl σ 10 y), npG (f (6 * x + y)) ge (gl σ 10 y)) := rfl
    rw [e3] at h
    have nz : ∀ z : Int64, oL (some z) = z := fun _ => rfl
    have tail : ∀ (g2 : Int64) (u7 u8 : AV) (u7' : Int64), g2 = npG (f (6 * x + y)) ge (gl σ 10 y) → Ev (d + 1, 0, 0) 11 77 [aR (some 7), aI (nI x), aL le, aU, aL g2, aU, aI (nI y), aL u7', aU, aL (oL (f (6 * y + x))), aU] [] σ (eL K) := by
      intro g2 u7 u8 u7' eg
      simp only [z10, z00, not_true_eq_false, not_false_eq_true, false_implies, true_implies, implies_true, nI_1, Int32.add_zero, true_or, or_true, true_and, and_true, eI_eq, eL_eq, eR_eq, eV_eq, lg_cmp_ge, lg_cmp_le, lg_cmp_gt, lg_cmp_lt, lg_cmp_eq, v_11_77, v_11_79, v_11_82, v_11_83, v_11_86, v_11_87, v_11_90, v_11_91, v_11_92, v_11_95, v_11_97, v_11_98, v_11_100, oL_no r4, hX.o7, hX.r7_2, hX.a10 (k := y) (by omega), cy]
      cases hf : f (6 * y + x) with
      | none =>
        simp only [v_11_104, v_11_105, v_11_108, nI_1, z10, z00, not_true_eq_false, not_false_eq_true, false_implies, true_implies, implies_true, true_and, and_true, true_or, or_true, false_and, and_false, false_or, or_false]
        rw [hf] at h
        exact ih (y + 1) le g2 _ _ _ _ (by omega) (by rw [eg]; exact h)
      | some v =>
        rw [hf] at h
        simp only [reduceCtorEq, nz, z10, z00, not_true_eq_false, not_false_eq_true, false_implies, true_implies, implies_true, true_and, and_true, true_or, or_true, false_and, and_false, false_or, or_false]
        rw [v_11_101]
        simp only [v_11_104, v_11_105, v_11_108, nI_1]
        exact ih (y + 1) _ g2 _ _ _ _ (by omega) (by rw [eg]; exact h)
    rw [v_11_12]
    simp only [z10, z00, not_true_eq_false, not_false_eq_true, false_implies, true_implies, implies_true, nI_1, Int32.add_zero, true_or, or_true, true_and, and_true, eI_eq, eL_eq, eR_eq, eV_eq, lg_cmp_ge, lg_cmp_le, lg_cmp_gt, lg_cmp_lt, lg_cmp_eq, v_11_14, v_11_15, v_11_18, v_11_19, v_11_22, v_11_23, v_11_25, v_11_26, v_11_28, v_11_29, v_11_30, v_11_32, v_11_33, v_11_36, v_11_38, v_11_40, v_11_41, v_11_42, v_11_43, v_11_44, v_11_46, v_11_48, v_11_51, v_11_52, v_11_55, v_11_57, v_11_60, v_11_62, v_11_63, v_11_66, v_11_68, v_11_69, v_11_71, hle, hX.o7, hX.r7_1, hX.r7_2, ix6', hX.a9 kxy, hX.a9 kyx, c1, c2, r1, r3, oL_no r2, hX.a10 (k := y) (by omega), cy]
    cases hf : f (6 * x + y) with
    | none =>
      simp only [v_11_75, not_true_eq_false, false_implies, true_implies, true_and, and_true]
      exact tail ge aU aU _ (by rw [hf]; rfl)
    | some v =>
      simp only [reduceCtorEq, nz, not_false_eq_true, true_implies, false_implies, true_and, and_true]
      rw [v_11_72]
      simp only [v_11_75]
      exact tail _ aU aU _ (by rw [hf]; rfl)
theorem X_nearestTo0 {d : Nat} {σ : Sto} {K : Int64 → Sto → Prop} {x : Nat} {f : Nat → Option Int64} (hX : XB σ) (hR : RpX σ 9 f) (hx : x < 6) (h : K (npW f (gl σ 10) x) σ) : CL (d + 1) 11 [aR (some 7), aI (nI x)] σ K := by
  refine CL_of ?_
  show Ev (d + 1, 0, 0) 11 0 [aR (some 7), aI (nI x), aU, aU, aU, aU, aU, aU, aU, aU, aU] [] σ _
  simp only [z10, z00, not_true_eq_false, not_false_eq_true, false_implies, true_implies, implies_true, nI_1, Int32.add_zero, true_or, or_true, true_and, and_true, eI_eq, eL_eq, eR_eq, eV_eq, lg_cmp_ge, lg_cmp_le, lg_cmp_gt, lg_cmp_lt, lg_cmp_eq, v_11_0, v_11_3, v_11_4, v_11_7, v_11_9, v_11_10]
  have := X_nearestTo0_loop (d := d) (K := K) hX hR hx x 0 (-9223372036854775808) 9223372036854775807 aU aU aU aU (by omega) h
  simpa only [nI_0] using this
theorem X_setAll_loop {d : Nat} {σ : Sto} {K : Int32 → Sto → Prop} {f : Nat → Option Int64} (hX : XB σ) (hR : RpX σ 9 f) : ∀ (n x c : Nat) (σ1 : Sto) (u3 u4 : AV), x + n = 6 → scZ 10 σ σ1 → (∀ σ2, scZ 10 σ σ2 → gl σ2 10 = (itr (npX f) x n (gl σ1 10, c)).1 → K (nI (itr (npX f) x n (gl σ1 10, c)).2) σ2) → Ev (d + 2, 0, 0) 10 4 [aR (some 7), aI (nI c), aI (nI x), u3, u4] [] σ1 (eI K) := by
  intro n
  induction n with
  | zero =>
    intro x c σ1 u3 u4 hx hs h
    have hx' : x = 6 := by omega
    subst hx'
    have hle : (6 : Int32) ≤ nI 6 := by decide
    rw [v_10_4]
    simp only [z10, z00, not_true_eq_false, not_false_eq_true, false_implies, true_implies, implies_true, nI_1, Int32.add_zero, true_or, or_true, true_and, and_true, eI_eq, eL_eq, eR_eq, eV_eq, lg_cmp_ge, lg_cmp_le, lg_cmp_gt, lg_cmp_lt, lg_cmp_eq, v_10_5, v_10_7, v_10_48, v_10_49, hle]
    exact h σ1 hs rfl
  | succ n ih =>
    intro x c σ1 u3 u4 hx hs h
    have hle : ¬ (6 : Int32) ≤ nI x := nI_ge (b := 6) (a := x) (by omega) (by omega)
    have cx : (nI x).toNatClampNeg = x := nI_clamp (by omega)
    have hX1 := hs.xb hX
    have hR1 : RpX σ1 9 f := fun k hk => by rw [hs.2.2.2 9 (by decide)]; exact hR k hk
    have e3 : itr (npX f) x (n + 1) (gl σ1 10, c) = itr (npX f) (x + 1) n (up1 (gl σ1 10) x (npW f (gl σ1 10) x), c + if npW f (gl σ1 10) x = gl σ1 10 x then 0 else 1) := rfl
    rw [e3] at h
    rw [v_10_4]
    simp only [z10, z00, not_true_eq_false, not_false_eq_true, false_implies, true_implies, implies_true, nI_1, Int32.add_zero, true_or, or_true, true_and, and_true, eI_eq, eL_eq, eR_eq, eV_eq, lg_cmp_ge, lg_cmp_le, lg_cmp_gt, lg_cmp_lt, lg_cmp_eq, v_10_5, v_10_7, v_10_10, v_10_11, v_10_12, hle, hX1.o7]
    refine X_nearestTo0 hX1 hR1 (by omega) ?_
    simp only [z10, z00, not_true_eq_false, not_false_eq_true, false_implies, true_implies, implies_true, nI_1, Int32.add_zero, true_or, or_true, true_and, and_true, eI_eq, eL_eq, eR_eq, eV_eq, lg_cmp_ge, lg_cmp_le, lg_cmp_gt, lg_cmp_lt, lg_cmp_eq, v_10_15, v_10_16, v_10_17, v_10_18, v_10_19, v_10_22, v_10_23, v_10_24, v_10_25, v_10_28, v_10_29, v_10_32, v_10_33, v_10_34, v_10_35, v_10_36, v_10_39, v_10_40, v_10_41, v_10_42, v_10_45, hX1.o7, hX1.r7_2, hX1.a10 (k := x) (by omega), cx]
    refine ⟨fun g => ?_, fun g => ?_⟩
    · rw [if_pos g] at h
      refine ih (x + 1) c _ _ _ (by omega) (hs.trans (scZ.l 10 σ1 x _)) ?_
      rw [gl_sl]
      exact h
    · rw [if_neg g] at h
      refine ih (x + 1) (c + 1) _ _ _ (by omega) (hs.trans (scZ.l 10 σ1 x _)) ?_
      rw [gl_sl]
      exact h
theorem X_setAll {d : Nat} {σ : Sto} {K : Int32 → Sto → Prop} {f : Nat → Option Int64} (hX : XB σ) (hR : RpX σ 9 f) (h : ∀ σ2, scZ 10 σ σ2 → gl σ2 10 = (itr (npX f) 0 6 (gl σ 10, 0)).1 → K (nI (itr (npX f) 0 6 (gl σ 10, 0)).2) σ2) : CI (d + 2) 10 [aR (some 7)] σ K := by
  refine CI_of ?_
  show Ev (d + 2, 0, 0) 10 0 [aR (some 7), aU, aU, aU, aU] [] σ _
  simp only [z10, z00, not_true_eq_false, not_false_eq_true, false_implies, true_implies, implies_true, nI_1, Int32.add_zero, true_or, or_true, true_and, and_true, eI_eq, eL_eq, eR_eq, eV_eq, lg_cmp_ge, lg_cmp_le, lg_cmp_gt, lg_cmp_lt, lg_cmp_eq, v_10_0, v_10_1, v_10_2, v_10_3]
  have := X_setAll_loop (d := d) (K := K) hX hR 6 0 0 σ aU aU (by omega) (scZ.rfl 10 σ) h
  simpa only [nI_0] using this
theorem X_tryOne {d : Nat} {σ : Sto} {K : Sto → Prop} {a : Nat} {v : Int64} (hX : XB σ) (ha : a < 6) (h : K (sl (si (si σ 7 7 (gi σ 7 7 + if gi σ 13 a = 0 then 1 else 0)) 13 a 1) 12 a v)) : CV d 12 [aR (some 7), aI (nI a), aL v] σ K := by
  have ca : (nI a).toNatClampNeg = a := nI_clamp (by omega)
  refine CV_of ?_
  show Ev (d, 0, 0) 12 0 [aR (some 7), aI (nI a), aL v, aU] [] σ _
  simp only [z10, z00, not_true_eq_false, not_false_eq_true, false_implies, true_implies, implies_true, nI_1, Int32.add_zero, true_or, or_true, true_and, and_true, eI_eq, eL_eq, eR_eq, eV_eq, lg_cmp_ge, lg_cmp_le, lg_cmp_gt, lg_cmp_lt, lg_cmp_eq, v_12_0, v_12_1, v_12_2, v_12_5, v_12_6, v_12_9, v_12_10, v_12_11, v_12_14, v_12_15, v_12_18, v_12_19, v_12_20, v_12_23, v_12_24, v_12_27, v_12_28, v_12_29, v_12_30, v_12_31, v_12_34, v_12_35, v_12_36, v_12_37, hX.o7, hX.r7_8, hX.r7_9, hX.a12 ha, hX.a13 ha, ca, okO_si, okA_si, gr_si_r]
  refine ⟨fun g => ?_, fun g => ?_⟩
  · rw [if_pos g] at h; exact h
  · rw [if_neg g] at h
    simp only [Int32.add_zero] at h
    exact h
def scY (σ σ' : Sto) : Prop := sn σ' = sn σ ∧ gr σ' = gr σ ∧ (∀ a k, a ≠ 13 → ¬ (a = 7 ∧ k = 7) → gi σ' a k = gi σ a k) ∧ (∀ a, a ≠ 12 → gl σ' a = gl σ a)
theorem X_tryNone_loop {b : B3} {σ : Sto} {K : Sto → Prop} (hX : XB σ) : ∀ (n k : Nat) (σ1 : Sto), k + n = 6 → sn σ1 = sn σ → gr σ1 = gr σ → gl σ1 = gl σ → (∀ a, a ≠ 13 → gi σ1 a = gi σ a) → (∀ j, j < k → gi σ1 13 j = 0) → (∀ σ2, sn σ2 = sn σ → gr σ2 = gr σ → gl σ2 = gl σ → (∀ a, a ≠ 13 → gi σ2 a = gi σ a) → (∀ j, j < 6 → gi σ2 13 j = 0) → K σ2) → Ev b 13 15 [aR (some 7), aI (nI k)] [] σ1 (eV K) := by
  intro n
  induction n with
  | zero =>
    intro k σ1 hk s1 s2 s3 s4 hz h
    have hk' : k = 6 := by omega
    subst hk'
    have hle : (6 : Int32) ≤ nI 6 := by decide
    rw [v_13_15]
    simp only [z10, z00, not_true_eq_false, not_false_eq_true, false_implies, true_implies, implies_true, nI_1, Int32.add_zero, true_or, or_true, true_and, and_true, eI_eq, eL_eq, eR_eq, eV_eq, lg_cmp_ge, lg_cmp_le, lg_cmp_gt, lg_cmp_lt, lg_cmp_eq, v_13_16, v_13_18, v_13_21, v_13_22, v_13_25, v_13_26, v_13_27, v_13_28, v_13_31, v_13_34, hle]
    exact h σ1 s1 s2 s3 s4 hz
  | succ n ih =>
    intro k σ1 hk s1 s2 s3 s4 hz h
    have hle : ¬ (6 : Int32) ≤ nI k := nI_ge (b := 6) (a := k) (by omega) (by omega)
    have ck : (nI k).toNatClampNeg = k := nI_clamp (by omega)
    have hX1 : XB σ1 := XB_of (Nat.le_of_eq s1.symm) (fun b k _ _ => by rw [s2]) hX
    rw [v_13_15]
    simp only [z10, z00, not_true_eq_false, not_false_eq_true, false_implies, true_implies, implies_true, nI_1, Int32.add_zero, true_or, or_true, true_and, and_true, eI_eq, eL_eq, eR_eq, eV_eq, lg_cmp_ge, lg_cmp_le, lg_cmp_gt, lg_cmp_lt, lg_cmp_eq, v_13_16, v_13_18, v_13_21, v_13_22, v_13_25, v_13_26, v_13_27, v_13_28, v_13_31, v_13_34, hle, hX1.o7, hX1.r7_9, hX1.a13 (k := k) (by omega), ck]
    refine ih (k + 1) _ (by omega) s1 s2 s3 (fun a ha => by rw [gi_si_r, if_neg ha]; exact s4 a ha) (fun j hj => ?_) h
    rw [gi_si_k]
    by_cases q : j = k
    · rw [if_pos ⟨rfl, q⟩]
    · rw [if_neg (fun z => q z.2)]; exact hz j (by omega)
theorem X_tryNone {d : Nat} {σ : Sto} {K : Sto → Prop} (hX : XB σ) (h : ∀ σ2, scY σ σ2 → gi σ2 7 7 = 0 → (∀ j, j < 6 → gl σ2 12 j = 0 ∧ gi σ2 13 j = 0) → K σ2) : CV (d + 1) 13 [aR (some 7)] σ K := by
  have hsn := hX.s
  refine CV_of ?_
  show Ev (d + 1, 0, 0) 13 0 [aR (some 7), aU] [] σ _
  simp only [z10, z00, not_true_eq_false, not_false_eq_true, false_implies, true_implies, implies_true, nI_1, Int32.add_zero, true_or, or_true, true_and, and_true, eI_eq, eL_eq, eR_eq, eV_eq, lg_cmp_ge, lg_cmp_le, lg_cmp_gt, lg_cmp_lt, lg_cmp_eq, v_13_0, v_13_1, v_13_2, v_13_5, v_13_6, v_13_9, v_13_10, hX.o7, hX.r7_8, okO_si, gr_si_r]
  have hX0 : XB (si σ 7 7 0) := hX
  refine X_fill (n := 6) (by decide) (by decide) (by show 12 < sn σ; omega) (by decide) (fun k hk => hX0.a12 hk) (fun σ1 h1 h2 => ?_)
  simp only [z10, z00, not_true_eq_false, not_false_eq_true, false_implies, true_implies, implies_true, nI_1, Int32.add_zero, true_or, or_true, true_and, and_true, eI_eq, eL_eq, eR_eq, eV_eq, lg_cmp_ge, lg_cmp_le, lg_cmp_gt, lg_cmp_lt, lg_cmp_eq, v_13_13, v_13_14]
  have := X_tryNone_loop (b := (d + 1, 0, 0)) (K := K) (h1.xb hX0) 6 0 σ1 (by omega) rfl rfl rfl (fun _ _ => rfl) (fun j hj => by omega) (fun σ2 s1 s2 s3 s4 s5 => by
    refine h σ2 ⟨s1.trans h1.1, s2.trans h1.2.1, fun a k e1 e2 => ?_, fun a e => ?_⟩ ?_ (fun j hj => ⟨?_, s5 j hj⟩)
    · rw [s4 a e1, h1.2.2.1, gi_si_k, if_neg e2]
    · rw [s3, h1.2.2.2 a e]; rfl
    · rw [s4 7 (by decide), h1.2.2.1, gi_si_k, if_pos ⟨rfl, rfl⟩]
    · rw [s3]; exact h2 j hj)
  simpa only [nI_0] using this
theorem X_firstBroken_loop {b : B3} {σ : Sto} {K : Int32 → Sto → Prop} {o : Nat → Option Int64} (hX : XB σ) (hR : RpX σ 8 o) : ∀ (n k : Nat) (u2 u3 : AV), k + n = 36 → K (ofN (fnd (ckB o (gl σ 12)) k n)) σ → Ev b 14 2 [aR (some 7), aI (nI k), u2, u3] [] σ (eI K) := by
  intro n
  induction n with
  | zero =>
    intro k u2 u3 hk h
    have hk' : k = 36 := by omega
    subst hk'
    have hle : (36 : Int32) ≤ nI 36 := by decide
    rw [v_14_2]
    simp only [z10, z00, not_true_eq_false, not_false_eq_true, false_implies, true_implies, implies_true, nI_1, Int32.add_zero, true_or, or_true, true_and, and_true, eI_eq, eL_eq, eR_eq, eV_eq, lg_cmp_ge, lg_cmp_le, lg_cmp_gt, lg_cmp_lt, lg_cmp_eq, v_14_3, v_14_5, v_14_8, v_14_9, v_14_12, v_14_13, v_14_15, v_14_16, v_14_17, v_14_18, v_14_21, v_14_22, v_14_24, v_14_25, v_14_26, v_14_27, v_14_28, v_14_29, v_14_32, v_14_33, v_14_34, v_14_37, v_14_38, v_14_41, v_14_42, v_14_43, v_14_46, v_14_47, v_14_48, v_14_49, v_14_52, v_14_53, v_14_54, v_14_57, v_14_60, v_14_61, hle]
    exact h
  | succ n ih =>
    intro k u2 u3 hk h
    have hle : ¬ (36 : Int32) ≤ nI k := nI_ge (b := 36) (a := k) (by omega) (by omega)
    have ck : (nI k).toNatClampNeg = k := nI_clamp (by omega)
    have z6 : ((6 : Int32) = 0) = False := eq_false (by decide)
    have c1 : (nI (k / 6)).toNatClampNeg = k / 6 := nI_clamp (by omega)
    have c2 : (nI (k % 6)).toNatClampNeg = k % 6 := nI_clamp (by omega)
    obtain ⟨r1, r2⟩ := hR k (by omega)
    have nz : ∀ z : Int64, oL (some z) = z := fun _ => rfl
    have e : fnd (ckB o (gl σ 12)) k (n + 1) = if ckB o (gl σ 12) k = true then some k else fnd (ckB o (gl σ 12)) (k + 1) n := rfl
    rw [e] at h
    rw [v_14_2]
    simp only [z10, z00, not_true_eq_false, not_false_eq_true, false_implies, true_implies, implies_true, nI_1, Int32.add_zero, true_or, or_true, true_and, and_true, eI_eq, eL_eq, eR_eq, eV_eq, lg_cmp_ge, lg_cmp_le, lg_cmp_gt, lg_cmp_lt, lg_cmp_eq, v_14_3, v_14_5, v_14_8, v_14_9, v_14_12, v_14_13, v_14_15, v_14_16, v_14_17, v_14_18, v_14_21, v_14_22, v_14_24, v_14_25, v_14_26, v_14_27, v_14_28, v_14_29, v_14_32, v_14_33, v_14_34, v_14_37, v_14_38, v_14_41, v_14_42, v_14_43, v_14_46, v_14_47, v_14_48, v_14_49, v_14_52, v_14_53, v_14_54, v_14_57, v_14_60, v_14_61, hle, z6, hX.o7, hX.r7_8, hX.r7_0, div6 (show k < 36 by omega), rem6' (show k < 36 by omega), hX.a12 (k := k / 6) (by omega), hX.a12 (k := k % 6) (by omega), c1, c2, hX.a8 (k := k) (by omega), ck, r1, oL_no r2]
    cases ho : o k with
    | none =>
      have eb : ckB o (gl σ 12) k = false := by unfold ckB; rw [ho]
      simp only [z10, z00, not_true_eq_false, not_false_eq_true, false_implies, true_implies, implies_true, true_and, and_true, true_or, or_true, false_and, and_false, false_or, or_false]
      exact ih (k + 1) _ _ (by omega) (by simpa [eb] using h)
    | some v =>
      have eb : ckB o (gl σ 12) k = decide (v < gl σ 12 (k / 6) - gl σ 12 (k % 6)) := by unfold ckB; rw [ho]
      simp only [reduceCtorEq, nz, z10, z00, not_true_eq_false, not_false_eq_true, false_implies, true_implies, implies_true, true_and, and_true, true_or, or_true, false_and, and_false, false_or, or_false]
      refine ⟨fun g => ih (k + 1) _ _ (by omega) ?_, fun g => ?_⟩
      · rw [eb, decide_eq_false (Int64.not_lt.mpr g)] at h
        simpa using h
      · rw [eb, decide_eq_true (Int64.not_le.mp g)] at h
        simpa [ofN] using h
theorem X_firstBroken {d : Nat} {σ : Sto} {K : Int32 → Sto → Prop} {o : Nat → Option Int64} (hX : XB σ) (hR : RpX σ 8 o) (h : K (ofN (fnd (ckB o (gl σ 12)) 0 36)) σ) : CI d 14 [aR (some 7)] σ K := by
  refine CI_of ?_
  show Ev (d, 0, 0) 14 0 [aR (some 7), aU, aU, aU] [] σ _
  simp only [z10, z00, not_true_eq_false, not_false_eq_true, false_implies, true_implies, implies_true, nI_1, Int32.add_zero, true_or, or_true, true_and, and_true, eI_eq, eL_eq, eR_eq, eV_eq, lg_cmp_ge, lg_cmp_le, lg_cmp_gt, lg_cmp_lt, lg_cmp_eq, v_14_0, v_14_1]
  have := X_firstBroken_loop (b := (d, 0, 0)) (K := K) hX hR 36 0 aU aU (by omega) h
  simpa only [nI_0] using this
