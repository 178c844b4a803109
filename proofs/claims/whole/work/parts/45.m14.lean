/-! the reference: percent, flow -/
/-- the least step that reaches so many of a hundred; n: how many through this step -/
def pcF (f : Nat → Nat) (p m : Nat) : Nat → Nat → Nat → Nat
  | 0, j, _ => j
  | k + 1, j, n => if p * m ≤ 100 * n then j else pcF f p m k (j + 1) (n + f (j + 1))
theorem sm_split (f : Nat → Nat) : ∀ (m n k : Nat), sm f k (m + n) = sm f k m + sm f (k + m) n
  | 0, n, k => by simp [sm]
  | m + 1, n, k => by
    rw [show m + 1 + n = (m + n) + 1 by omega, sm, sm, sm_split f m n (k + 1), show k + 1 + m = k + (m + 1) by omega, Nat.add_assoc]
theorem M_percent_loop {d : Nat} {σ : Sto} {K : Int32 → Sto → Prop} {S s a p : Nat} {gn : Nat → Nat} (hM : MB σ S) (hR : ∀ k, k < S → okR (rwM σ k)) (hG : Gn σ gn) (hs : s < 6) (ha : a < 8) (hp : p ≤ 100) (hA : alN (rws σ 0 S) gn s a < 100000) : ∀ (k j n : Nat), j + k = 30 → n = sm (iSt (rws σ 0 S) gn s a) 0 (j + 1) → K (nI (pcF (iSt (rws σ 0 S) gn s a) p (alN (rws σ 0 S) gn s a) k j n)) σ → Ev (d + 3, 0, 0) 160 53 [aR (some 68), aI (nI s), aI (nI a), aI (nI p), aI (nI n), aI (nI j)] [] σ (eI K) := by
  intro k
  induction k with
  | zero =>
    intro j n hj hn h
    have hj' : j = 30 := by omega
    subst hj'
    have hn' : n = alN (rws σ 0 S) gn s a := hn
    rw [v_160_53]
    simp only [z10, z00, not_true_eq_false, not_false_eq_true, false_implies, true_implies, implies_true, nI_1, Int32.add_zero, true_or, or_true, true_and, and_true, eI_eq, eL_eq, eR_eq, eV_eq, lg_cmp_ge, lg_cmp_le, lg_cmp_gt, lg_cmp_lt, lg_cmp_eq, v_160_55, v_160_57, v_160_58, v_160_59, v_160_60, v_160_61, v_160_62, v_160_65, v_160_66, v_160_69, v_160_72, v_160_74, v_160_75, v_160_76, v_160_77, v_160_79, v_160_82, v_160_83, v_160_85, v_160_88, v_160_90, hM.o]
    refine M_all hM hR hG hs ha ?_
    rw [show (100 : Int32) = nI 100 from rfl, pk_mul, pk_mul]
    have hm : p * alN (rws σ 0 S) gn s a ≤ 100 * n := by rw [hn']; exact Nat.mul_le_mul_right _ hp
    have c1 : nI (p * alN (rws σ 0 S) gn s a) ≤ nI (100 * n) := nI_le hm (by omega)
    refine ⟨fun _ => h, fun g => absurd c1 g⟩
  | succ k ih =>
    intro j n hj hn h
    have hle : n ≤ alN (rws σ 0 S) gn s a := by
      have e : alN (rws σ 0 S) gn s a = sm (iSt (rws σ 0 S) gn s a) 0 (j + 1) + sm (iSt (rws σ 0 S) gn s a) (0 + (j + 1)) (30 - j) := by
        rw [← sm_split, show j + 1 + (30 - j) = 31 by omega]
        rfl
      rw [hn, e]
      exact Nat.le_add_right _ _
    rw [v_160_53]
    simp only [z10, z00, not_true_eq_false, not_false_eq_true, false_implies, true_implies, implies_true, nI_1, Int32.add_zero, true_or, or_true, true_and, and_true, eI_eq, eL_eq, eR_eq, eV_eq, lg_cmp_ge, lg_cmp_le, lg_cmp_gt, lg_cmp_lt, lg_cmp_eq, v_160_55, v_160_57, v_160_58, v_160_59, v_160_60, v_160_61, v_160_62, v_160_65, v_160_66, v_160_69, v_160_72, v_160_74, v_160_75, v_160_76, v_160_77, v_160_79, v_160_82, v_160_83, v_160_85, v_160_88, v_160_90, hM.o]
    refine M_all hM hR hG hs ha ?_
    rw [show (100 : Int32) = nI 100 from rfl, pk_mul, pk_mul]
    have hb : p * alN (rws σ 0 S) gn s a ≤ 100 * alN (rws σ 0 S) gn s a := Nat.mul_le_mul_right _ hp
    have c1 : nI (p * alN (rws σ 0 S) gn s a) ≤ nI (100 * n) ↔ p * alN (rws σ 0 S) gn s a ≤ 100 * n := nI_leI (by omega) (by omega)
    simp only [c1]
    unfold pcF at h
    refine ⟨fun g => by rw [if_pos g] at h; exact h, fun g => ⟨hM.o, M_inStep (j := j + 1) hM hR hG hs ha (by omega) ?_⟩⟩
    rw [if_neg g] at h
    simp only [nI_add]
    refine ih (j + 1) _ (by omega) ?_ h
    rw [hn, sm_split (iSt (rws σ 0 S) gn s a) (j + 1) 1 0]
    simp [sm]
theorem M_percent {d : Nat} {σ : Sto} {K : Int32 → Sto → Prop} {S : Nat} {gn : Nat → Nat} (hM : MB σ S) (hR : ∀ k, k < S → okR (rwM σ k)) (hG : Gn σ gn) (hA : ∀ s a, alN (rws σ 0 S) gn s a < 100000) {x y w : Int32} (h0 : ((x < 0 ∨ 6 ≤ x) ∨ (y < 0 ∨ 8 ≤ y)) → K (-1) σ) (h1 : ∀ s a, s < 6 → a < 8 → x = nI s → y = nI a → (alN (rws σ 0 S) gn s a = 0 → K (-1) σ) ∧ (¬ alN (rws σ 0 S) gn s a = 0 → (w < 1 ∨ 100 < w → K (-2) σ) ∧ (∀ p, 1 ≤ p → p ≤ 100 → w = nI p → K (nI (pcF (iSt (rws σ 0 S) gn s a) p (alN (rws σ 0 S) gn s a) 30 0 (iSt (rws σ 0 S) gn s a 0))) σ))) : CI (d + 3) 160 [aR (some 68), aI x, aI y, aI w] σ K := by
  refine CI_of ?_
  show Ev (d + 3, 0, 0) 160 0 [aR (some 68), aI x, aI y, aI w, aU, aU] [] σ _
  simp only [z10, z00, not_true_eq_false, not_false_eq_true, false_implies, true_implies, implies_true, nI_1, Int32.add_zero, true_or, or_true, true_and, and_true, eI_eq, eL_eq, eR_eq, eV_eq, lg_cmp_ge, lg_cmp_le, lg_cmp_gt, lg_cmp_lt, lg_cmp_eq, v_160_0, v_160_1, v_160_2, v_160_5, v_160_8, v_160_9, v_160_10, v_160_13, v_160_16, v_160_17, v_160_18, v_160_19, v_160_22, v_160_25, v_160_26, v_160_27, v_160_28, v_160_29, v_160_32, v_160_33, v_160_35, v_160_38, v_160_40, v_160_41, v_160_42, v_160_43, v_160_44, v_160_45, v_160_48, v_160_50, v_160_51, v_160_55, v_160_57, v_160_58, v_160_59, v_160_60, v_160_61, v_160_62, v_160_65, v_160_66, v_160_69, v_160_72, v_160_74, v_160_75, v_160_76, v_160_77, v_160_79, v_160_82, v_160_83, v_160_85, v_160_88, v_160_90, hM.o]
  refine M_isService (fun c => ?_) (fun c1 c2 => ?_)
  · simp only [z10, z00, not_true_eq_false, not_false_eq_true, false_implies, true_implies, implies_true, true_and, and_true, true_or, or_true, false_and, and_false, false_or, or_false]
    exact h0 (Or.inl c)
  · simp only [z10, z00, not_true_eq_false, not_false_eq_true, false_implies, true_implies, implies_true, true_and, and_true, true_or, or_true, false_and, and_false, false_or, or_false, hM.o]
    refine M_isAct (fun c => ?_) (fun c3 c4 => ?_)
    · simp only [z10, z00, not_true_eq_false, not_false_eq_true, false_implies, true_implies, implies_true, true_and, and_true, true_or, or_true, false_and, and_false, false_or, or_false]
      exact h0 (Or.inr c)
    · obtain ⟨s, hs, es⟩ := ix_of (n := 6) (by decide) c1 c2
      obtain ⟨a, ha, ea⟩ := ix_of (n := 8) (by decide) c3 c4
      subst es
      subst ea
      obtain ⟨h1, h2⟩ := h1 s a hs ha rfl rfl
      have hA := hA s a
      simp only [z10, z00, not_true_eq_false, not_false_eq_true, false_implies, true_implies, implies_true, true_and, and_true, true_or, or_true, false_and, and_false, false_or, or_false, hM.o]
      refine M_all hM hR hG hs ha ?_
      refine ⟨fun g => ?_, fun g => h1 ((nI_eq (b := 0) (by omega) (by omega)).mp g)⟩
      obtain ⟨h3, h4⟩ := h2 (fun q => g (by rw [q]; rfl))
      refine ⟨fun g1 => h3 (Or.inl g1), fun g1 => ⟨fun g2 => ?_, fun g2 => h3 (Or.inr (Int32.not_le.mp g2))⟩⟩
      have g0 : ¬ w < 0 := fun q => g1 (Int32.lt_trans q (by decide))
      obtain ⟨p, hp, ep⟩ := nI_of2 (n := 100) (M := 100) (by decide) g0 g2
      subst ep
      have hp1 : 1 ≤ p := Nat.pos_of_ne_zero (fun q => g1 (by subst q; decide))
      rw [← nI_0]
      refine ⟨hM.o, M_inStep (j := 0) hM hR hG hs ha (by omega) ?_⟩
      have := M_percent_loop (d := d) (K := K) hM hR hG hs ha hp hA 30 0 _ (by omega) (by simp [sm]) (h4 p hp1 hp rfl)
      simpa only [nI_0] using this
def anB (p : Nat → Bool) : Nat → Nat → Bool
  | _, 0 => false
  | k, n + 1 => p k || anB p (k + 1) n
def svB (σ : Sto) (S k o : Nat) : Bool := decide (rK (rwM σ o) = 2 ∧ uM σ S o = some k)
def svY (σ : Sto) (S : Nat) (y : Int32) (k o : Nat) : Bool := svB σ S k o && decide (rV (rwM σ o) = y)
def svF (σ : Sto) (S : Nat) (y : Int32) (k o : Nat) : Bool := svY σ S y k o && decide (rF (rwM σ o) = 1)
theorem M_flow_in {d : Nat} {σ : Sto} {Q : Po} {S : Nat} (hM : MB σ S) {x y w c : Int32} {k : Nat} (hk : k < S) : ∀ (n o : Nat) (a i f : Bool), o + n = S → Ev (d + 2, 0, 0) 161 194 [aR (some 68), aI x, aI y, aI w, aI c, aI (nI k), aI (bI (a || anB (svB σ S k) o n)), aI (bI (i || anB (svY σ S y k) o n)), aI (bI (f || anB (svF σ S y k) o n)), aI (nI S)] [] σ Q → Ev (d + 2, 0, 0) 161 94 [aR (some 68), aI x, aI y, aI w, aI c, aI (nI k), aI (bI a), aI (bI i), aI (bI f), aI (nI o)] [] σ Q := by
  intro n
  induction n with
  | zero =>
    intro o a i f ho h
    have ho' : o = S := by omega
    subst ho'
    have hle : nI o ≤ nI o := Int32.le_refl _
    rw [v_161_94]
    simp only [z10, z00, not_true_eq_false, not_false_eq_true, false_implies, true_implies, implies_true, nI_1, Int32.add_zero, true_or, or_true, true_and, and_true, eI_eq, eL_eq, eR_eq, eV_eq, lg_cmp_ge, lg_cmp_le, lg_cmp_gt, lg_cmp_lt, lg_cmp_eq, v_161_96, v_161_97, v_161_100, v_161_103, v_161_104, v_161_107, v_161_109, v_161_110, v_161_111, v_161_114, v_161_115, v_161_117, v_161_120, v_161_122, v_161_125, v_161_128, v_161_129, v_161_131, v_161_133, v_161_136, v_161_137, v_161_140, v_161_142, v_161_143, v_161_144, v_161_147, v_161_148, v_161_151, v_161_152, v_161_154, v_161_156, v_161_159, v_161_160, v_161_163, v_161_165, v_161_166, v_161_167, v_161_170, v_161_171, v_161_174, v_161_176, v_161_177, v_161_178, v_161_181, v_161_182, v_161_185, v_161_186, v_161_188, v_161_191, hM.o, hM.n, hle]
    simpa [anB] using h
  | succ n ih =>
    intro o a i f ho h
    have hS := hM.c
    have hle : ¬ nI S ≤ nI o := nI_ge (by omega) (by omega)
    have hc : (nI o).toNatClampNeg = o := nI_clamp (by omega)
    have fin : ∀ a' i' f', a' = (a || svB σ S k o) → i' = (i || svY σ S y k o) → f' = (f || svF σ S y k o) → Ev (d + 2, 0, 0) 161 94 [aR (some 68), aI x, aI y, aI w, aI c, aI (nI k), aI (bI a'), aI (bI i'), aI (bI f'), aI (nI (o + 1))] [] σ Q := by
      intro a' i' f' e1 e2 e3
      refine ih (o + 1) a' i' f' (by omega) ?_
      rw [e1, e2, e3, Bool.or_assoc, Bool.or_assoc, Bool.or_assoc]
      exact h
    rw [v_161_94]
    simp only [z10, z00, not_true_eq_false, not_false_eq_true, false_implies, true_implies, implies_true, nI_1, Int32.add_zero, true_or, or_true, true_and, and_true, eI_eq, eL_eq, eR_eq, eV_eq, lg_cmp_ge, lg_cmp_le, lg_cmp_gt, lg_cmp_lt, lg_cmp_eq, v_161_96, v_161_97, v_161_100, v_161_103, v_161_104, v_161_107, v_161_109, v_161_110, v_161_111, v_161_114, v_161_115, v_161_117, v_161_120, v_161_122, v_161_125, v_161_128, v_161_129, v_161_131, v_161_133, v_161_136, v_161_137, v_161_140, v_161_142, v_161_143, v_161_144, v_161_147, v_161_148, v_161_151, v_161_152, v_161_154, v_161_156, v_161_159, v_161_160, v_161_163, v_161_165, v_161_166, v_161_167, v_161_170, v_161_171, v_161_174, v_161_176, v_161_177, v_161_178, v_161_181, v_161_182, v_161_185, v_161_186, v_161_188, v_161_191, hM.o, hM.n, hle, hM.r6, hM.r4, hM.r7, hM.x74 (k := o) (by omega), hc]
    refine ⟨fun g => ?_, fun g => M_above hM (by omega) ?_⟩
    · have e : svB σ S k o = false := by simp [svB, rK_M, g]
      exact fin a i f (by simp [e]) (by simp [svY, e]) (by simp [svF, svY, e])
    · have hu : ∀ j, uM σ S o = some j → j < 2 ^ 31 := fun j hj => by have := uM_lt hj; omega
      have eU : upI (rws σ 0 S) (rwM σ o) = uM σ S o := rfl
      simp only [eU, ofN_inj hu (show k < 2 ^ 31 by omega)]
      refine ⟨fun g2 => ?_, fun g2 => ?_⟩
      · have e : svB σ S k o = true := by simp [svB, rK_M, g, g2]
        simp only [z10, z00, not_true_eq_false, not_false_eq_true, false_implies, true_implies, implies_true, nI_1, Int32.add_zero, true_or, or_true, true_and, and_true, eI_eq, eL_eq, eR_eq, eV_eq, lg_cmp_ge, lg_cmp_le, lg_cmp_gt, lg_cmp_lt, lg_cmp_eq, v_161_96, v_161_97, v_161_100, v_161_103, v_161_104, v_161_107, v_161_109, v_161_110, v_161_111, v_161_114, v_161_115, v_161_117, v_161_120, v_161_122, v_161_125, v_161_128, v_161_129, v_161_131, v_161_133, v_161_136, v_161_137, v_161_140, v_161_142, v_161_143, v_161_144, v_161_147, v_161_148, v_161_151, v_161_152, v_161_154, v_161_156, v_161_159, v_161_160, v_161_163, v_161_165, v_161_166, v_161_167, v_161_170, v_161_171, v_161_174, v_161_176, v_161_177, v_161_178, v_161_181, v_161_182, v_161_185, v_161_186, v_161_188, v_161_191, hM.o, hM.r4, hM.r7, hM.x72 (k := o) (by omega), hM.x75 (k := o) (by omega), hc, z10, z00, not_true_eq_false, not_false_eq_true, false_implies, true_implies, implies_true, true_and, and_true, true_or, or_true, false_and, and_false, false_or, or_false]
        have eY : svY σ S y k o = decide (gi σ 72 o = y) := by rw [svY, e, Bool.true_and]; rfl
        have eF : svF σ S y k o = (decide (gi σ 72 o = y) && decide (gi σ 75 o = 1)) := by rw [svF, eY]; rfl
        rw [e, eY, eF] at fin
        cases i with
        | true =>
          cases f with
          | true =>
            simp only [bI, if_true, z10, z00, not_true_eq_false, not_false_eq_true, false_implies, true_implies, implies_true, true_and, and_true, true_or, or_true, false_and, and_false, false_or, or_false]
            exact fin true true true (by simp) (by simp) (by simp)
          | false =>
            simp only [bI, if_true, Bool.false_eq_true, if_false, z10, z00, not_true_eq_false, not_false_eq_true, false_implies, true_implies, implies_true, true_and, and_true, true_or, or_true, false_and, and_false, false_or, or_false]
            exact ⟨fun q => fin true true false (by simp) (by simp) (by simp [q]), fun q => ⟨fun q2 => fin true true false (by simp) (by simp) (by simp [q2]), fun q2 => fin true true true (by simp) (by simp) (by simp [q, q2])⟩⟩
        | false =>
          cases f with
          | true =>
            simp only [bI, if_true, Bool.false_eq_true, if_false, z10, z00, not_true_eq_false, not_false_eq_true, false_implies, true_implies, implies_true, true_and, and_true, true_or, or_true, false_and, and_false, false_or, or_false]
            exact ⟨fun q => fin true false true (by simp) (by simp [q]) (by simp), fun q => fin true true true (by simp) (by simp [q]) (by simp)⟩
          | false =>
            simp only [bI, if_true, Bool.false_eq_true, if_false, z10, z00, not_true_eq_false, not_false_eq_true, false_implies, true_implies, implies_true, true_and, and_true, true_or, or_true, false_and, and_false, false_or, or_false]
            refine ⟨fun q => ⟨fun _ => fin true false false (by simp) (by simp [q]) (by simp [q]), fun q1 => absurd q1 q⟩, fun q => ⟨fun q1 => absurd q q1, fun _ => ⟨fun q2 => fin true true false (by simp) (by simp [q]) (by simp [q2]), fun q2 => fin true true true (by simp) (by simp [q]) (by simp [q, q2])⟩⟩⟩
      · have e : svB σ S k o = false := by simp [svB, rK_M, g2]
        exact fin a i f (by simp [e]) (by simp [svY, e]) (by simp [svF, svY, e])
def flB (σ : Sto) (S : Nat) (x y w : Int32) (k : Nat) : Bool := decide (rK (rwM σ k) = 1 ∧ rV (rwM σ k) = x) && (if w = 0 then anB (svY σ S y k) 0 S else if w = 1 then (anB (svY σ S y k) 0 S && (decide (rF (rwM σ k) = 1) || anB (svF σ S y k) 0 S)) else ! anB (svB σ S k) 0 S)
theorem M_flow_loop {d : Nat} {σ : Sto} {K : Int32 → Sto → Prop} {S : Nat} (hM : MB σ S) {x y w : Int32} (hw : w = 0 ∨ w = 1 ∨ w = 2) : ∀ (n k c : Nat) (u6 u7 u8 u9 : AV), k + n = S → K (nI (c + cnt (flB σ S x y w) k n)) σ → Ev (d + 2, 0, 0) 161 33 [aR (some 68), aI x, aI y, aI w, aI (nI c), aI (nI k), u6, u7, u8, u9] [] σ (eI K) := by
  intro n
  induction n with
  | zero =>
    intro k c u6 u7 u8 u9 hk h
    have hk' : k = S := by omega
    subst hk'
    have hle : nI k ≤ nI k := Int32.le_refl _
    rw [v_161_33]
    simp only [z10, z00, not_true_eq_false, not_false_eq_true, false_implies, true_implies, implies_true, nI_1, Int32.add_zero, true_or, or_true, true_and, and_true, eI_eq, eL_eq, eR_eq, eV_eq, lg_cmp_ge, lg_cmp_le, lg_cmp_gt, lg_cmp_lt, lg_cmp_eq, v_161_0, v_161_1, v_161_2, v_161_5, v_161_8, v_161_9, v_161_10, v_161_13, v_161_16, v_161_17, v_161_20, v_161_21, v_161_22, v_161_25, v_161_26, v_161_27, v_161_28, v_161_30, v_161_31, v_161_35, v_161_36, v_161_39, v_161_42, v_161_43, v_161_46, v_161_48, v_161_49, v_161_50, v_161_53, v_161_54, v_161_57, v_161_59, v_161_60, v_161_61, v_161_64, v_161_67, v_161_68, v_161_70, v_161_71, v_161_73, v_161_74, v_161_77, v_161_79, v_161_80, v_161_81, v_161_84, v_161_85, v_161_88, v_161_89, v_161_91, v_161_92, v_161_96, v_161_97, v_161_100, v_161_103, v_161_104, v_161_107, v_161_109, v_161_110, v_161_111, v_161_114, v_161_115, v_161_117, v_161_120, v_161_122, v_161_125, v_161_128, v_161_129, v_161_131, v_161_133, v_161_136, v_161_137, v_161_140, v_161_142, v_161_143, v_161_144, v_161_147, v_161_148, v_161_151, v_161_152, v_161_154, v_161_156, v_161_159, v_161_160, v_161_163, v_161_165, v_161_166, v_161_167, v_161_170, v_161_171, v_161_174, v_161_176, v_161_177, v_161_178, v_161_181, v_161_182, v_161_185, v_161_186, v_161_188, v_161_191, v_161_194, v_161_196, v_161_197, v_161_200, v_161_202, v_161_205, v_161_206, v_161_207, v_161_210, v_161_212, v_161_215, v_161_217, v_161_220, v_161_221, v_161_222, v_161_225, v_161_227, v_161_230, v_161_231, v_161_234, v_161_235, v_161_236, v_161_238, v_161_241, v_161_244, v_161_246, hM.o, hM.n, hle]
    exact h
  | succ n ih =>
    intro k c u6 u7 u8 u9 hk h
    have hS := hM.c
    have hle : ¬ nI S ≤ nI k := nI_ge (by omega) (by omega)
    have hc : (nI k).toNatClampNeg = k := nI_clamp (by omega)
    have fin : ∀ q u6 u7 u8 u9, q = flB σ S x y w k → Ev (d + 2, 0, 0) 161 33 [aR (some 68), aI x, aI y, aI w, aI (nI (c + if q then 1 else 0)), aI (nI (k + 1)), u6, u7, u8, u9] [] σ (eI K) := by
      intro q u6 u7 u8 u9 e
      refine ih (k + 1) _ _ _ _ _ (by omega) ?_
      rw [e, Nat.add_assoc]
      exact h
    rw [v_161_33]
    simp only [z10, z00, not_true_eq_false, not_false_eq_true, false_implies, true_implies, implies_true, nI_1, Int32.add_zero, true_or, or_true, true_and, and_true, eI_eq, eL_eq, eR_eq, eV_eq, lg_cmp_ge, lg_cmp_le, lg_cmp_gt, lg_cmp_lt, lg_cmp_eq, v_161_35, v_161_36, v_161_39, v_161_42, v_161_43, v_161_46, v_161_48, v_161_49, v_161_50, v_161_53, v_161_54, v_161_57, v_161_59, v_161_60, v_161_61, v_161_64, v_161_67, v_161_68, v_161_70, v_161_71, v_161_73, v_161_74, v_161_77, v_161_79, v_161_80, v_161_81, v_161_84, v_161_85, v_161_88, v_161_89, v_161_91, v_161_92, v_161_238, v_161_241, hM.o, hM.n, hle, hM.r6, hM.r4, hM.r7, hM.x74 (k := k) (by omega), hM.x72 (k := k) (by omega), hM.x75 (k := k) (by omega), hc]
    refine ⟨fun g => fin false _ _ _ _ (by simp [flB, rK_M, g]), fun g => ⟨fun g2 => ?_, fun g2 => fin false _ _ _ _ (by simp [flB, rV_M, g2])⟩⟩
    have rest : ∀ f : Bool, f = decide (gi σ 75 k = 1) → Ev (d + 2, 0, 0) 161 94 [aR (some 68), aI x, aI y, aI w, aI (nI c), aI (nI k), aI (bI false), aI (bI false), aI (bI f), aI (nI 0)] [] σ (eI K) := by
      intro f ef
      refine M_flow_in hM (show k < S by omega) S 0 false false f (by omega) ?_
      simp only [Bool.false_or]
      have eB : flB σ S x y w k = (if w = 0 then anB (svY σ S y k) 0 S else if w = 1 then (anB (svY σ S y k) 0 S && (f || anB (svF σ S y k) 0 S)) else ! anB (svB σ S k) 0 S) := by
        rw [ef, flB, rK_M, rV_M, rF_M, g, g2]
        simp
        try rfl
      rw [eB] at fin
      generalize anB (svB σ S k) 0 S = A at fin ⊢
      generalize anB (svY σ S y k) 0 S = Y at fin ⊢
      generalize (f || anB (svF σ S y k) 0 S) = F at fin ⊢
      have w01 : ¬ (0 : Int32) = 1 := by decide
      have w02 : ¬ (0 : Int32) = 2 := by decide
      have w10 : ¬ (1 : Int32) = 0 := by decide
      have w12 : ¬ (1 : Int32) = 2 := by decide
      have w20 : ¬ (2 : Int32) = 0 := by decide
      have w21 : ¬ (2 : Int32) = 1 := by decide
      rcases hw with e | e | e <;> subst e <;> cases A <;> cases Y <;> cases F <;> simp only [z10, z00, not_true_eq_false, not_false_eq_true, false_implies, true_implies, implies_true, nI_1, Int32.add_zero, true_or, or_true, true_and, and_true, eI_eq, eL_eq, eR_eq, eV_eq, lg_cmp_ge, lg_cmp_le, lg_cmp_gt, lg_cmp_lt, lg_cmp_eq, v_161_194, v_161_196, v_161_197, v_161_200, v_161_202, v_161_205, v_161_206, v_161_207, v_161_210, v_161_212, v_161_215, v_161_217, v_161_220, v_161_221, v_161_222, v_161_225, v_161_227, v_161_230, v_161_231, v_161_234, v_161_235, v_161_236, v_161_238, v_161_241, bI, if_true, if_false, Bool.false_eq_true, w01, w02, w10, w12, w20, w21, z10, z00, not_true_eq_false, not_false_eq_true, false_implies, true_implies, implies_true, true_and, and_true, true_or, or_true, false_and, and_false, false_or, or_false] <;> first
        | exact fin true _ _ _ _ (by simp)
        | exact fin false _ _ _ _ (by simp)
    refine ⟨fun g3 => rest false (by simp [g3]), fun g3 => rest true (by simp [g3])⟩
theorem M_flow {d : Nat} {σ : Sto} {K : Int32 → Sto → Prop} {S : Nat} (hM : MB σ S) {x y w : Int32} (h0 : ((x < 0 ∨ 6 ≤ x) ∨ (y < 0 ∨ 6 ≤ y) ∨ w < 0 ∨ 2 < w) → K (-1) σ) (h : ¬ x < 0 → ¬ 6 ≤ x → ¬ y < 0 → ¬ 6 ≤ y → (w = 0 ∨ w = 1 ∨ w = 2) → K (nI (cnt (flB σ S x y w) 0 S)) σ) : CI (d + 2) 161 [aR (some 68), aI x, aI y, aI w] σ K := by
  refine CI_of ?_
  show Ev (d + 2, 0, 0) 161 0 [aR (some 68), aI x, aI y, aI w, aU, aU, aU, aU, aU, aU] [] σ _
  simp only [z10, z00, not_true_eq_false, not_false_eq_true, false_implies, true_implies, implies_true, nI_1, Int32.add_zero, true_or, or_true, true_and, and_true, eI_eq, eL_eq, eR_eq, eV_eq, lg_cmp_ge, lg_cmp_le, lg_cmp_gt, lg_cmp_lt, lg_cmp_eq, v_161_0, v_161_1, v_161_2, v_161_5, v_161_8, v_161_9, v_161_10, v_161_13, v_161_16, v_161_17, v_161_20, v_161_21, v_161_22, v_161_25, v_161_26, v_161_27, v_161_28, v_161_30, v_161_31, hM.o]
  refine M_isService (fun c => ?_) (fun c1 c2 => ?_)
  · simp only [z10, z00, not_true_eq_false, not_false_eq_true, false_implies, true_implies, implies_true, true_and, and_true, true_or, or_true, false_and, and_false, false_or, or_false]
    exact h0 (Or.inl c)
  · simp only [z10, z00, not_true_eq_false, not_false_eq_true, false_implies, true_implies, implies_true, true_and, and_true, true_or, or_true, false_and, and_false, false_or, or_false, hM.o]
    refine M_isService (fun c => ?_) (fun c3 c4 => ?_)
    · simp only [z10, z00, not_true_eq_false, not_false_eq_true, false_implies, true_implies, implies_true, true_and, and_true, true_or, or_true, false_and, and_false, false_or, or_false]
      exact h0 (Or.inr (Or.inl c))
    · simp only [z10, z00, not_true_eq_false, not_false_eq_true, false_implies, true_implies, implies_true, true_and, and_true, true_or, or_true, false_and, and_false, false_or, or_false]
      refine ⟨fun g => h0 (Or.inr (Or.inr (Or.inl g))), fun g => ⟨fun g2 => ?_, fun g2 => h0 (Or.inr (Or.inr (Or.inr (Int32.not_le.mp g2))))⟩⟩
      obtain ⟨j, hj, ej⟩ := nI_of2 (n := 2) (M := 2) (by decide) g g2
      have hw : w = 0 ∨ w = 1 ∨ w = 2 := by
        have : j = 0 ∨ j = 1 ∨ j = 2 := by omega
        rcases this with e | e | e <;> subst e <;> subst ej <;> decide
      have := M_flow_loop (d := d) (K := K) (x := x) (y := y) hM hw S 0 0 aU aU aU aU (by omega) (by simpa using h c1 c2 c3 c4 hw)
      simpa only [nI_0] using this
