/-! the reference: bounds -/
def itr {α : Type} (f : Nat → α → α) : Nat → Nat → α → α
  | _, 0, a => a
  | k, n + 1, a => itr f (k + 1) n (f k a)
def lowO (o : Option Int64) (v : Int64) : Option Int64 := match o with
  | none => some v
  | some w => some (if v < w then v else w)
def fwS (z x y : Nat) (o : Nat → Option Int64) : Nat → Option Int64 := match o (6 * x + z), o (6 * z + y) with
  | some a, some b => up1 o (6 * x + y) (lowO (o (6 * x + y)) (a + b))
  | _, _ => o
def fwA (o : Nat → Option Int64) : Nat → Option Int64 := itr (fun z o => itr (fun x o => itr (fun y o => fwS z x y o) 0 6 o) 0 6 o) 0 6 o
theorem ix6 (x y : Nat) : 6 * nI x + nI y = nI (6 * x + y) := by rw [show (6 : Int32) = nI 6 from rfl, pk_mul, nI_add]
/-- a row of numbers beside a row of whether they are there -/
def oB (σ : Sto) (a f k : Nat) : Option Int64 := if gi σ f k = 0 then none else some (gl σ a k)
def RpB (σ : Sto) (a f : Nat) (o : Nat → Option Int64) : Prop := ∀ k, k < 36 → oB σ a f k = o k ∧ (gi σ f k = 0 ∨ gi σ f k = 1)
/-- nothing but the four rows is written -/
def sc4 (σ σ' : Sto) : Prop := sn σ' = sn σ ∧ gr σ' = gr σ ∧ (∀ a, a ≠ 83 → a ≠ 84 → gi σ' a = gi σ a) ∧ (∀ a, a ≠ 81 → a ≠ 82 → gl σ' a = gl σ a)
theorem sc4.rfl (σ : Sto) : sc4 σ σ := ⟨Eq.refl _, Eq.refl _, fun _ _ _ => Eq.refl _, fun _ _ _ => Eq.refl _⟩
theorem sc4.trans {σ σ' σ'' : Sto} (h1 : sc4 σ σ') (h2 : sc4 σ' σ'') : sc4 σ σ'' := ⟨h2.1.trans h1.1, h2.2.1.trans h1.2.1, fun a e1 e2 => (h2.2.2.1 a e1 e2).trans (h1.2.2.1 a e1 e2), fun a e1 e2 => (h2.2.2.2 a e1 e2).trans (h1.2.2.2 a e1 e2)⟩
theorem sc4.i {σ : Sto} {a k : Nat} {v : Int32} (h : a = 83 ∨ a = 84) : sc4 σ (si σ a k v) := ⟨Eq.refl _, Eq.refl _, fun b e1 e2 => (same_si (by omega)).1, fun _ _ _ => Eq.refl _⟩
theorem sc4.l {σ : Sto} {a k : Nat} {v : Int64} (h : a = 81 ∨ a = 82) : sc4 σ (sl σ a k v) := ⟨Eq.refl _, Eq.refl _, fun _ _ _ => Eq.refl _, fun b e1 e2 => (same_sl (by omega)).2.1⟩
theorem sc4.mb {σ σ' : Sto} {S : Nat} (h : sc4 σ σ') (hM : MB σ S) : MB σ' S := by
  obtain ⟨h1, h2, h3, h4⟩ := h
  unfold MB at hM ⊢
  rw [h1, h2, h3 68 (by decide) (by decide)]
  exact hM
theorem sc4.rw {σ σ' : Sto} (h : sc4 σ σ') : rwM σ' = rwM σ := by
  obtain ⟨h1, h2, h3, h4⟩ := h
  funext k
  unfold rwM
  rw [h3 69 (by decide) (by decide), h3 70 (by decide) (by decide), h3 71 (by decide) (by decide), h3 72 (by decide) (by decide), h3 73 (by decide) (by decide), h3 74 (by decide) (by decide), h3 75 (by decide) (by decide), h4 76 (by decide) (by decide), h4 77 (by decide) (by decide)]
theorem sc4.rws {σ σ' : Sto} (h : sc4 σ σ') : ∀ n k, rws σ' k n = rws σ k n
  | 0, _ => Eq.refl _
  | n + 1, k => by
    show rwM σ' k :: _ = rwM σ k :: _
    rw [h.rw, sc4.rws h n (k + 1)]
theorem sc4.u {σ σ' : Sto} (h : sc4 σ σ') (S : Nat) : uM σ' S = uM σ S := by
  funext k
  unfold uM
  rw [h.rws, h.rw]
theorem sc4.pa {σ σ' : Sto} (h : sc4 σ σ') (S : Nat) : paB σ' S = paB σ S := by
  funext k
  unfold paB
  rw [h.u, h.rw]
theorem oB_si {σ : Sto} {a f k j : Nat} {v : Int32} : oB (si σ f k v) a f j = if j = k then (if v = 0 then none else some (gl σ a j)) else oB σ a f j := by
  unfold oB
  rw [gi_si]
  by_cases h : j = k
  · subst h; simp [up1, gl_si_r]
  · simp [up1, h, gl_si_r]
theorem RpB_tell {σ : Sto} {a f k : Nat} {v : Int64} {o : Nat → Option Int64} (h : RpB σ a f o) (hk : k < 36) : RpB (si (if gi σ f k = 0 ∨ v < gl σ a k then sl σ a k v else σ) f k 1) a f (up1 o k (lowO (o k) v)) := by
  intro j hj
  obtain ⟨h1, h2⟩ := h j hj
  obtain ⟨g1, g2⟩ := h k hk
  refine ⟨?_, ?_⟩
  · rw [oB_si]
    by_cases e : j = k
    · subst e
      simp only [if_true, up1]
      rw [← g1]
      by_cases c : gi σ f j = 0
      · simp [oB, c, lowO, gl_sl_r, up1]
      · by_cases c2 : v < gl σ a j
        · simp [oB, c, c2, lowO, gl_sl_r, up1]
        · simp [oB, c, c2, lowO]
    · simp only [e, if_false, up1]
      rw [← h1]
      split
      · unfold oB
        rw [gi_sl_r, gl_sl_r]
        simp [up1, e]
      · exact Eq.refl _
  · rw [gi_si]
    unfold up1
    by_cases e : j = k
    · simp [e]
    · simp only [e, if_false]
      split
      · exact h2
      · exact h2
theorem M_tell {d : Nat} {σ : Sto} {x y : Nat} {v : Int64} {o : Nat → Option Int64} {K : Sto → Prop} {S : Nat} (hM : MB σ S) (hx : x < 6) (hy : y < 6) (hR : RpB σ 81 83 o) (h : ∀ σ', sc4 σ σ' → RpB σ' 81 83 (up1 o (6 * x + y) (lowO (o (6 * x + y)) v)) → K σ') : CV d 128 [aR (some 68), aI (nI x), aI (nI y), aL v] σ K := by
  have hk : 6 * x + y < 36 := by omega
  have hc : (nI (6 * x + y)).toNatClampNeg = 6 * x + y := nI_clamp (by omega)
  have key := RpB_tell (v := v) hR hk
  refine CV_of ?_
  show Ev (d, 0, 0) 128 0 [aR (some 68), aI (nI x), aI (nI y), aL v, aU, aU] [] σ _
  simp only [z10, z00, not_true_eq_false, not_false_eq_true, false_implies, true_implies, implies_true, nI_1, Int32.add_zero, true_or, or_true, true_and, and_true, eI_eq, eL_eq, eR_eq, eV_eq, lg_cmp_ge, lg_cmp_le, lg_cmp_gt, lg_cmp_lt, lg_cmp_eq, v_128_0, v_128_2, v_128_3, v_128_4, v_128_5, v_128_6, v_128_8, v_128_9, v_128_12, v_128_14, v_128_15, v_128_18, v_128_19, v_128_20, v_128_23, v_128_25, v_128_26, v_128_27, v_128_30, v_128_31, v_128_34, v_128_36, v_128_37, v_128_38, v_128_39, v_128_42, v_128_44, v_128_45, v_128_46, ix6, hM.o, hM.r21, hM.r19, hM.a83 (k := 6 * x + y) hk, hM.a81 (k := 6 * x + y) hk, hc, okO_sl, okA_sl, gr_sl_r]
  refine ⟨fun g => ?_, fun g => ⟨fun g2 => ?_, fun g2 => ?_⟩⟩
  · rw [if_pos (Or.inl g)] at key
    exact h _ ((sc4.l (Or.inl (Eq.refl _))).trans (sc4.i (Or.inl (Eq.refl _)))) key
  · rw [if_neg (fun z => z.elim g (fun z => (Int64.not_lt.mpr g2) z))] at key
    exact h _ (sc4.i (Or.inl (Eq.refl _))) key
  · rw [if_pos (Or.inr (Int64.not_le.mp g2))] at key
    exact h _ ((sc4.l (Or.inl (Eq.refl _))).trans (sc4.i (Or.inl (Eq.refl _)))) key
/-- what a row tells of the bounds -/
def bdS (σ : Sto) (S k : Nat) (o : Nat → Option Int64) : Nat → Option Int64 := match uM σ S k with
  | none => o
  | some p => if prB (rwM σ p) (rwM σ k) then
      (let x := (rV (rwM σ p)).toNatClampNeg
       let y := (rV (rwM σ k)).toNatClampNeg
       if rK (rwM σ k) = 2 then (let o1 := up1 o (6 * x + y) (lowO (o (6 * x + y)) (rB (rwM σ k) - rB (rwM σ p)))
         up1 o1 (6 * y + x) (lowO (o1 (6 * y + x)) (rE (rwM σ p) - rE (rwM σ k))))
       else up1 o (6 * x + y) (lowO (o (6 * x + y)) (rB (rwM σ k) - rE (rwM σ p))))
    else o
def okV (r : Rw) : Prop := ∃ v, v < 6 ∧ rV r = nI v
theorem M_bounds1 {b : B3} {σ : Sto} {Q : Po} {S : Nat} (hM : MB σ S) {u2 u3 u4 u5 : AV} : ∀ (n k : Nat) (σ1 : Sto), k + n = 36 → sc4 σ σ1 → (∀ j, j < k → gi σ1 83 j = 0) → (∀ σ2, sc4 σ σ2 → RpB σ2 81 83 (fun _ => none) → Ev b 129 21 [aR (some 68), aI (nI 36), u2, u3, u4, u5] [] σ2 Q) → Ev b 129 2 [aR (some 68), aI (nI k), u2, u3, u4, u5] [] σ1 Q := by
  intro n
  induction n with
  | zero =>
    intro k σ1 hk hs hz h
    have hk' : k = 36 := by omega
    subst hk'
    have hle : (36 : Int32) ≤ nI 36 := by decide
    rw [v_129_2]
    simp only [z10, z00, not_true_eq_false, not_false_eq_true, false_implies, true_implies, implies_true, nI_1, Int32.add_zero, true_or, or_true, true_and, and_true, eI_eq, eL_eq, eR_eq, eV_eq, lg_cmp_ge, lg_cmp_le, lg_cmp_gt, lg_cmp_lt, lg_cmp_eq, v_129_3, v_129_5, v_129_8, v_129_9, v_129_12, v_129_13, v_129_14, v_129_15, v_129_18, hle]
    exact h σ1 hs (fun j hj => ⟨by unfold oB; rw [if_pos (hz j hj)], Or.inl (hz j hj)⟩)
  | succ n ih =>
    intro k σ1 hk hs hz h
    have hle : ¬ (36 : Int32) ≤ nI k := nI_ge (b := 36) (a := k) (by omega) (by omega)
    have hc : (nI k).toNatClampNeg = k := nI_clamp (by omega)
    have hM1 := hs.mb hM
    rw [v_129_2]
    simp only [z10, z00, not_true_eq_false, not_false_eq_true, false_implies, true_implies, implies_true, nI_1, Int32.add_zero, true_or, or_true, true_and, and_true, eI_eq, eL_eq, eR_eq, eV_eq, lg_cmp_ge, lg_cmp_le, lg_cmp_gt, lg_cmp_lt, lg_cmp_eq, v_129_3, v_129_5, v_129_8, v_129_9, v_129_12, v_129_13, v_129_14, v_129_15, v_129_18, hle, hM1.o, hM1.r21, hM1.a83 (k := k) (by omega), hc]
    refine ih (k + 1) _ (by omega) (hs.trans (sc4.i (Or.inl (Eq.refl _)))) (fun j hj => ?_) h
    rw [gi_si]
    unfold up1
    by_cases e : j = k
    · simp [e]
    · simp only [e, if_false]; exact hz j (by omega)
theorem M_bounds2 {d : Nat} {σ : Sto} {Q : Po} {S : Nat} (hM : MB σ S) (hV : ∀ k, k < S → okV (rwM σ k)) : ∀ (n k : Nat) (σ1 : Sto) (o : Nat → Option Int64) (u2 u3 u4 u5 : AV), k + n = S → sc4 σ σ1 → RpB σ1 81 83 o → (∀ σ2 u2 u3 u4 u5, sc4 σ σ2 → RpB σ2 81 83 (itr (bdS σ S) k n o) → Ev (d + 3, 0, 0) 129 142 [aR (some 68), aI (nI S), u2, u3, u4, u5] [] σ2 Q) → Ev (d + 3, 0, 0) 129 23 [aR (some 68), aI (nI k), u2, u3, u4, u5] [] σ1 Q := by
  intro n
  have hS := hM.c
  induction n with
  | zero =>
    intro k σ1 o u2 u3 u4 u5 hk hs hR h
    have hk' : k = S := by omega
    subst hk'
    have hM1 := hs.mb hM
    have hle : nI k ≤ nI k := Int32.le_refl _
    rw [v_129_23]
    simp only [z10, z00, not_true_eq_false, not_false_eq_true, false_implies, true_implies, implies_true, nI_1, Int32.add_zero, true_or, or_true, true_and, and_true, eI_eq, eL_eq, eR_eq, eV_eq, lg_cmp_ge, lg_cmp_le, lg_cmp_gt, lg_cmp_lt, lg_cmp_eq, v_129_24, v_129_25, v_129_28, v_129_31, v_129_32, v_129_33, v_129_36, v_129_39, v_129_42, v_129_43, v_129_44, v_129_47, v_129_48, v_129_49, v_129_52, v_129_53, v_129_54, v_129_55, v_129_56, v_129_59, v_129_60, v_129_61, v_129_63, v_129_64, v_129_67, v_129_68, v_129_69, v_129_70, v_129_73, v_129_74, v_129_75, v_129_77, v_129_78, v_129_81, v_129_82, v_129_83, v_129_84, v_129_87, v_129_88, v_129_89, v_129_90, v_129_93, v_129_94, v_129_96, v_129_97, v_129_98, v_129_101, v_129_102, v_129_103, v_129_104, v_129_107, v_129_108, v_129_109, v_129_110, v_129_113, v_129_116, v_129_117, v_129_118, v_129_120, v_129_121, v_129_124, v_129_125, v_129_126, v_129_127, v_129_130, v_129_131, v_129_132, v_129_133, v_129_136, v_129_139, hM1.o, hM1.n, hle]
    exact h σ1 u2 u3 u4 u5 hs hR
  | succ n ih =>
    intro k σ1 o u2 u3 u4 u5 hk hs hR h
    have hM1 := hs.mb hM
    have hks : k < S := by omega
    have hle : ¬ nI S ≤ nI k := nI_ge (by omega) (by omega)
    have hck : (nI k).toNatClampNeg = k := nI_clamp (by omega)
    rw [v_129_23]
    simp only [z10, z00, not_true_eq_false, not_false_eq_true, false_implies, true_implies, implies_true, nI_1, Int32.add_zero, true_or, or_true, true_and, and_true, eI_eq, eL_eq, eR_eq, eV_eq, lg_cmp_ge, lg_cmp_le, lg_cmp_gt, lg_cmp_lt, lg_cmp_eq, v_129_24, v_129_25, v_129_28, v_129_31, v_129_32, v_129_33, v_129_36, v_129_39, v_129_42, v_129_43, v_129_44, v_129_47, v_129_48, v_129_49, v_129_52, v_129_53, v_129_54, v_129_55, v_129_56, v_129_59, v_129_60, v_129_61, v_129_63, v_129_64, v_129_67, v_129_68, v_129_69, v_129_70, v_129_73, v_129_74, v_129_75, v_129_77, v_129_78, v_129_81, v_129_82, v_129_83, v_129_84, v_129_87, v_129_88, v_129_89, v_129_90, v_129_93, v_129_94, v_129_96, v_129_97, v_129_98, v_129_101, v_129_102, v_129_103, v_129_104, v_129_107, v_129_108, v_129_109, v_129_110, v_129_113, v_129_116, v_129_117, v_129_118, v_129_120, v_129_121, v_129_124, v_129_125, v_129_126, v_129_127, v_129_130, v_129_131, v_129_132, v_129_133, v_129_136, v_129_139, hM1.o, hM1.n, hle]
    refine M_isPair hM1 hks ?_
    rw [hs.pa]
    cases hu : uM σ S k with
    | none =>
      have e : paB σ S k = false := by unfold paB; rw [hu]
      simp only [e, bI, Bool.false_eq_true, if_false, z10, z00, not_true_eq_false, not_false_eq_true, false_implies, true_implies, implies_true, true_and, and_true, true_or, or_true, false_and, and_false, false_or, or_false]
      exact ih (k + 1) σ1 o u2 u3 u4 u5 (by omega) hs hR (fun σ2 u2 u3 u4 u5 g1 g2 => h σ2 u2 u3 u4 u5 g1 (by
        have e2 : bdS σ S k o = o := by unfold bdS; rw [hu]
        show RpB σ2 81 83 (itr (bdS σ S) (k + 1) n (bdS σ S k o))
        rw [e2]; exact g2))
    | some p =>
      have hp := uM_lt hu
      have hcp : (nI p).toNatClampNeg = p := nI_clamp (by omega)
      obtain ⟨x, hx, ex⟩ := hV p hp
      obtain ⟨y, hy, ey⟩ := hV k hks
      have hcx : (nI x).toNatClampNeg = x := nI_clamp (by omega)
      have hcy : (nI y).toNatClampNeg = y := nI_clamp (by omega)
      cases hpr : prB (rwM σ p) (rwM σ k) with
      | false =>
        have e : paB σ S k = false := by unfold paB; rw [hu]; exact hpr
        simp only [e, bI, Bool.false_eq_true, if_false, z10, z00, not_true_eq_false, not_false_eq_true, false_implies, true_implies, implies_true, true_and, and_true, true_or, or_true, false_and, and_false, false_or, or_false]
        exact ih (k + 1) σ1 o u2 u3 u4 u5 (by omega) hs hR (fun σ2 u2 u3 u4 u5 g1 g2 => h σ2 u2 u3 u4 u5 g1 (by
          have e2 : bdS σ S k o = o := by unfold bdS; rw [hu]; simp [hpr]
          show RpB σ2 81 83 (itr (bdS σ S) (k + 1) n (bdS σ S k o))
          rw [e2]; exact g2))
      | true =>
        have e : paB σ S k = true := by unfold paB; rw [hu]; exact hpr
        have ep : gi σ1 72 p = nI x := by rw [hs.2.2.1 72 (by decide) (by decide)]; exact ex
        have ek : gi σ1 72 k = nI y := by rw [hs.2.2.1 72 (by decide) (by decide)]; exact ey
        have eK : gi σ1 74 k = rK (rwM σ k) := by rw [hs.2.2.1 74 (by decide) (by decide)]; rfl
        have eB : gl σ1 76 = gl σ 76 := hs.2.2.2 76 (by decide) (by decide)
        have eE : gl σ1 77 = gl σ 77 := hs.2.2.2 77 (by decide) (by decide)
        simp only [e, bI, if_true, hM1.o, z10, z00, not_true_eq_false, not_false_eq_true, false_implies, true_implies, implies_true, true_and, and_true, true_or, or_true, false_and, and_false, false_or, or_false]
        refine M_above hM1 hks ?_
        rw [show upI (rws σ1 0 S) (rwM σ1 k) = some p by have := hu; unfold uM at this; rw [hs.rws, hs.rw]; exact this]
        simp only [z10, z00, not_true_eq_false, not_false_eq_true, false_implies, true_implies, implies_true, nI_1, Int32.add_zero, true_or, or_true, true_and, and_true, eI_eq, eL_eq, eR_eq, eV_eq, lg_cmp_ge, lg_cmp_le, lg_cmp_gt, lg_cmp_lt, lg_cmp_eq, v_129_24, v_129_25, v_129_28, v_129_31, v_129_32, v_129_33, v_129_36, v_129_39, v_129_42, v_129_43, v_129_44, v_129_47, v_129_48, v_129_49, v_129_52, v_129_53, v_129_54, v_129_55, v_129_56, v_129_59, v_129_60, v_129_61, v_129_63, v_129_64, v_129_67, v_129_68, v_129_69, v_129_70, v_129_73, v_129_74, v_129_75, v_129_77, v_129_78, v_129_81, v_129_82, v_129_83, v_129_84, v_129_87, v_129_88, v_129_89, v_129_90, v_129_93, v_129_94, v_129_96, v_129_97, v_129_98, v_129_101, v_129_102, v_129_103, v_129_104, v_129_107, v_129_108, v_129_109, v_129_110, v_129_113, v_129_116, v_129_117, v_129_118, v_129_120, v_129_121, v_129_124, v_129_125, v_129_126, v_129_127, v_129_130, v_129_131, v_129_132, v_129_133, v_129_136, v_129_139, ofN, hM1.o, hM1.r4, hM1.r6, hM1.r8, hM1.r9, hM1.x72 (k := p) (by omega), hM1.x72 (k := k) (by omega), hM1.x74 (k := k) (by omega), hM1.a76 (k := k) (by omega), hM1.a76 (k := p) (by omega), hM1.a77 (k := k) (by omega), hM1.a77 (k := p) (by omega), hck, hcp, ep, ek, eK, eB, eE]
        have e2 : bdS σ S k o = if rK (rwM σ k) = 2 then up1 (up1 o (6 * x + y) (lowO (o (6 * x + y)) (gl σ 76 k - gl σ 76 p))) (6 * y + x) (lowO (up1 o (6 * x + y) (lowO (o (6 * x + y)) (gl σ 76 k - gl σ 76 p)) (6 * y + x)) (gl σ 77 p - gl σ 77 k)) else up1 o (6 * x + y) (lowO (o (6 * x + y)) (gl σ 76 k - gl σ 77 p)) := by
          unfold bdS
          rw [hu]
          simp only [hpr, if_true, ex, ey, hcx, hcy, rB_M, rE_M]
        have e3 : itr (bdS σ S) k (n + 1) o = itr (bdS σ S) (k + 1) n (bdS σ S k o) := Eq.refl _
        refine ⟨fun g => ?_, fun g => ?_⟩
        · refine M_tell hM1 hx hy hR (fun σ2 g1 g2 => ?_)
          rw [if_neg g] at e2
          exact ih (k + 1) σ2 _ _ _ _ _ (by omega) (hs.trans g1) g2 (fun σ3 u2 u3 u4 u5 q1 q2 => h σ3 u2 u3 u4 u5 q1 (by rw [e3, e2]; exact q2))
        · refine M_tell hM1 hx hy hR (fun σ2 g1 g2 => ?_)
          have hs2 := hs.trans g1
          have hM2 := hs2.mb hM
          have eE2 : gl σ2 77 = gl σ 77 := hs2.2.2.2 77 (by decide) (by decide)
          simp only [z10, z00, not_true_eq_false, not_false_eq_true, false_implies, true_implies, implies_true, nI_1, Int32.add_zero, true_or, or_true, true_and, and_true, eI_eq, eL_eq, eR_eq, eV_eq, lg_cmp_ge, lg_cmp_le, lg_cmp_gt, lg_cmp_lt, lg_cmp_eq, v_129_24, v_129_25, v_129_28, v_129_31, v_129_32, v_129_33, v_129_36, v_129_39, v_129_42, v_129_43, v_129_44, v_129_47, v_129_48, v_129_49, v_129_52, v_129_53, v_129_54, v_129_55, v_129_56, v_129_59, v_129_60, v_129_61, v_129_63, v_129_64, v_129_67, v_129_68, v_129_69, v_129_70, v_129_73, v_129_74, v_129_75, v_129_77, v_129_78, v_129_81, v_129_82, v_129_83, v_129_84, v_129_87, v_129_88, v_129_89, v_129_90, v_129_93, v_129_94, v_129_96, v_129_97, v_129_98, v_129_101, v_129_102, v_129_103, v_129_104, v_129_107, v_129_108, v_129_109, v_129_110, v_129_113, v_129_116, v_129_117, v_129_118, v_129_120, v_129_121, v_129_124, v_129_125, v_129_126, v_129_127, v_129_130, v_129_131, v_129_132, v_129_133, v_129_136, v_129_139, hM2.o, hM2.r9, hM2.a77 (k := k) (by omega), hM2.a77 (k := p) (by omega), hck, hcp, eE2]
          refine M_tell hM2 hy hx g2 (fun σ3 q1 q2 => ?_)
          rw [if_pos g] at e2
          exact ih (k + 1) σ3 _ _ _ _ _ (by omega) (hs2.trans q1) q2 (fun σ4 u2 u3 u4 u5 r1 r2 => h σ4 u2 u3 u4 u5 r1 (by rw [e3, e2]; exact r2))
