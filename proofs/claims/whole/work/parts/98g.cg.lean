/-! the start: the class, its traces -/
def pF (f : Nat → Nat → Int32) : Nat → Nat → Nat → Int32
  | 0 => f
  | i + 1 => up2 (up2 (pF f i) (28 + 2 * i) 2 1) (28 + 2 * i) 3 0
def pG (g : Nat → Nat → Option Nat) : Nat → Nat → Nat → Option Nat
  | 0 => g
  | i + 1 => up2 (up2 (pG g i) (28 + 2 * i) 6 (some (28 + 2 * i + 1))) 2 i (some (28 + 2 * i))
theorem kdT4 : ∀ i, i < 20 → kd (28 + 2 * i + 1) = (7, 60) := by decide
theorem C_post_loop {d : Nat} {K : Sto → Prop} {f : Nat → Nat → Int32} {g : Nat → Nat → Option Nat} : ∀ (n i : Nat) (σ : Sto), i + n = 20 → Rep σ (28 + 2 * i) (pF f i) (pG g i) → Bl (28 + 2 * i) (pF f i) (pG g i) → gr σ 1 0 = some 2 → (∀ σ', Rep σ' 68 (pF f 20) (pG g 20) → Bl 68 (pF f 20) (pG g 20) → K σ') → Ev (d + 2, 2 * n, 68 * n) 59 80 [aR (some 1), aI (nI i)] [] σ (eV K) := by
  intro n
  induction n with
  | zero =>
    intro i σ hi hr hb hg h
    have hi' : i = 20 := by omega
    subst hi'
    have hle : (20 : Int32) ≤ nI 20 := by decide
    rw [v_59_80]
    simp only [z10, z00, not_true_eq_false, not_false_eq_true, false_implies, true_implies, implies_true, nI_1, Int32.add_zero, true_or, or_true, true_and, and_true, eI_eq, eL_eq, eR_eq, eV_eq, lg_cmp_ge, lg_cmp_le, lg_cmp_gt, lg_cmp_lt, lg_cmp_eq, v_59_81, v_59_83, v_59_105, hle]
    exact h σ hr hb
  | succ n ih =>
    intro i σ hi hr hb hg h
    have hi2 : i < 20 := by omega
    have hle : ¬ (20 : Int32) ≤ nI i := nI_ge (a := i) (b := 20) hi2 (by omega)
    have hc : (nI i).toNatClampNeg = i := nI_clamp (by omega)
    have hs := hr.s
    have hO : okO σ 1 5 := ⟨by rw [hs]; omega, by decide⟩
    have k1 : kd (28 + 2 * i) = (3, 8) := kdT3 i hi2
    rw [v_59_80]
    simp only [z10, z00, not_true_eq_false, not_false_eq_true, false_implies, true_implies, implies_true, nI_1, Int32.add_zero, true_or, or_true, true_and, and_true, eI_eq, eL_eq, eR_eq, eV_eq, lg_cmp_ge, lg_cmp_le, lg_cmp_gt, lg_cmp_lt, lg_cmp_eq, v_59_81, v_59_83, v_59_86, v_59_87, v_59_90, v_59_91, v_59_94, hle, hO, hg, hs, k1]
    refine ⟨by omega, by omega, ?_⟩
    have hr1 := hr.al hb
    show Ev (d + 1 + 1, 2 * n + 1, 68 * n + 60) 59 95 _ _ _ _
    rw [v_59_95]
    refine C_trace (a := 28 + 2 * i) hr1 hb.s k1 (kdT4 i hi2) (fun σ' hr' => ?_)
    have hs' := hr'.s
    have hA : okA σ' 2 10 (nI i) := okA_n (by rw [hs']; omega) (by decide) hi2 (by decide)
    have hT : okO σ' (28 + 2 * i) 3 := ⟨by rw [hs']; omega, by rw [k1]⟩
    rw [v_59_98]
    simp only [z10, z00, not_true_eq_false, not_false_eq_true, false_implies, true_implies, implies_true, nI_1, Int32.add_zero, true_or, or_true, true_and, and_true, eI_eq, eL_eq, eR_eq, eV_eq, lg_cmp_ge, lg_cmp_le, lg_cmp_gt, lg_cmp_lt, lg_cmp_eq, v_59_99, v_59_102, hA, hT, hc]
    refine ih (i + 1) _ (by omega) ?_ ?_ ?_ h
    · exact hr'.wr 2 i (some (28 + 2 * i))
    · exact ((((hb.s.s).i (by omega)).i (by omega)).r (by omega)).r (by omega)
    · rw [gr_sr_k, if_neg (by omega), hr']
      show up2 (pG g i) (28 + 2 * i) 6 (some (28 + 2 * i + 1)) 1 0 = _
      unfold up2
      rw [if_neg (by omega)]
      rw [hr] at hg
      exact hg
