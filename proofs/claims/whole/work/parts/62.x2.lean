/-! the class: one span asked -/
theorem X_hasHole {d : Nat} {σ : Sto} {K : Int32 → Sto → Prop} {a : Nat} (ha : okO σ a 1) (h : K (bI (decide (¬ gi σ a 1 = 0 ∧ gr σ a 9 = none))) σ) : CI d 18 [aR (some a)] σ K := by
  refine CI_of ?_
  show Ev (d, 0, 0) 18 0 [aR (some a)] [] σ _
  simp only [z10, z00, not_true_eq_false, not_false_eq_true, false_implies, true_implies, implies_true, nI_1, Int32.add_zero, true_or, or_true, true_and, and_true, eI_eq, eL_eq, eR_eq, eV_eq, lg_cmp_ge, lg_cmp_le, lg_cmp_gt, lg_cmp_lt, lg_cmp_eq, v_18_0, v_18_1, v_18_4, v_18_7, v_18_8, v_18_11, v_18_14, v_18_15, v_18_18, v_18_19, ha]
  exact ⟨fun g => by simpa [bI, g] using h, fun g => ⟨fun g2 => by simpa [bI, g, g2] using h, fun g2 => by simpa [bI, g, g2] using h⟩⟩
theorem X_isKidOf {d : Nat} {σ : Sto} {K : Int32 → Sto → Prop} {a : Nat} {x : Int32} (ha : okO σ a 1) (h : K (bI (decide (¬ gr σ a 10 = none ∧ ¬ gr σ a 9 = none ∧ gi σ a 1 = x))) σ) : CI d 19 [aR (some a), aI x] σ K := by
  refine CI_of ?_
  show Ev (d, 0, 0) 19 0 [aR (some a), aI x] [] σ _
  simp only [z10, z00, not_true_eq_false, not_false_eq_true, false_implies, true_implies, implies_true, nI_1, Int32.add_zero, true_or, or_true, true_and, and_true, eI_eq, eL_eq, eR_eq, eV_eq, lg_cmp_ge, lg_cmp_le, lg_cmp_gt, lg_cmp_lt, lg_cmp_eq, v_19_0, v_19_1, v_19_4, v_19_7, v_19_8, v_19_11, v_19_14, v_19_15, v_19_18, v_19_19, v_19_22, v_19_23, v_19_26, v_19_27, ha]
  exact ⟨fun g => by simpa [bI, g] using h, fun g => ⟨fun g2 => by simpa [bI, g, g2] using h, fun g2 => ⟨fun g3 => by simpa [bI, g, g2, g3] using h, fun g3 => by simpa [bI, g, g2, g3] using h⟩⟩⟩
theorem X_isRoot {d : Nat} {σ : Sto} {K : Int32 → Sto → Prop} {a : Nat} (ha : okO σ a 1) (h : K (bI (decide (gr σ a 9 = none))) σ) : CI d 20 [aR (some a)] σ K := by
  refine CI_of ?_
  show Ev (d, 0, 0) 20 0 [aR (some a)] [] σ _
  simp only [z10, z00, not_true_eq_false, not_false_eq_true, false_implies, true_implies, implies_true, nI_1, Int32.add_zero, true_or, or_true, true_and, and_true, eI_eq, eL_eq, eR_eq, eV_eq, lg_cmp_ge, lg_cmp_le, lg_cmp_gt, lg_cmp_lt, lg_cmp_eq, v_20_0, v_20_1, v_20_4, v_20_7, v_20_8, v_20_11, v_20_12, ha]
  exact ⟨fun g => by simpa [bI, g] using h, fun g => by simpa [bI, g] using h⟩
def paX (σ : Sto) (r : Option Nat) (a : Nat) : Bool := match r with
  | none => false
  | some p => prB (rwX σ 0 p) (rwX σ 0 a)
theorem X_isPair {d : Nat} {σ : Sto} {K : Int32 → Sto → Prop} {a : Nat} (ha : okO σ a 1) (hp : ∀ p, gr σ a 9 = some p → okO σ p 1) (h : K (bI (paX σ (gr σ a 9) a)) σ) : CI d 21 [aR (some a)] σ K := by
  refine CI_of ?_
  show Ev (d, 0, 0) 21 0 [aR (some a)] [] σ _
  simp only [z10, z00, not_true_eq_false, not_false_eq_true, false_implies, true_implies, implies_true, nI_1, Int32.add_zero, true_or, or_true, true_and, and_true, eI_eq, eL_eq, eR_eq, eV_eq, lg_cmp_ge, lg_cmp_le, lg_cmp_gt, lg_cmp_lt, lg_cmp_eq, v_21_0, v_21_1, v_21_4, v_21_7, v_21_8, ha]
  cases hr : gr σ a 9 with
  | none =>
    simp only [z10, z00, not_true_eq_false, not_false_eq_true, false_implies, true_implies, implies_true, nI_1, Int32.add_zero, true_or, or_true, true_and, and_true, eI_eq, eL_eq, eR_eq, eV_eq, lg_cmp_ge, lg_cmp_le, lg_cmp_gt, lg_cmp_lt, lg_cmp_eq, v_21_11, v_21_14, v_21_15, v_21_18, v_21_21, v_21_22, z10, z00, not_true_eq_false, not_false_eq_true, false_implies, true_implies, implies_true, true_and, and_true, true_or, or_true, false_and, and_false, false_or, or_false]
    rw [hr] at h
    exact h
  | some p =>
    rw [hr] at h
    have e : paX σ (some p) a = decide (¬ gi σ p 2 = gi σ a 2 ∧ ((gi σ a 4 = 2 ∧ gi σ p 4 = 1) ∨ (gi σ a 4 = 4 ∧ gi σ p 4 = 3))) := rfl
    rw [e] at h
    have w13 : ¬ (1 : Int32) = 3 := by decide
    have w24 : ¬ (2 : Int32) = 4 := by decide
    simp only [z10, z00, not_true_eq_false, not_false_eq_true, false_implies, true_implies, implies_true, nI_1, Int32.add_zero, true_or, or_true, true_and, and_true, eI_eq, eL_eq, eR_eq, eV_eq, lg_cmp_ge, lg_cmp_le, lg_cmp_gt, lg_cmp_lt, lg_cmp_eq, v_21_11, v_21_14, v_21_15, v_21_18, v_21_21, v_21_22, v_21_23, v_21_24, v_21_27, v_21_30, v_21_31, v_21_34, v_21_35, v_21_38, v_21_39, v_21_42, v_21_43, v_21_46, v_21_49, v_21_50, v_21_53, v_21_54, v_21_57, v_21_58, v_21_61, v_21_62, v_21_65, v_21_66, ha, hp p hr, hr, reduceCtorEq]
    refine ⟨fun g => ?_, fun g => ?_⟩
    · refine ⟨fun g2 => ⟨fun g3 => ?_, fun g3 => ⟨fun g4 => ?_, fun g4 => ?_⟩⟩, fun g2 => ⟨fun g3 => ?_, fun g3 => ⟨fun g4 => ?_, fun g4 => ⟨fun g5 => ?_, fun g5 => ?_⟩⟩⟩⟩
      · simpa [bI, g, g2, g3] using h
      · simpa [bI, g, g2, g3, g4] using h
      · simpa [bI, g, g2, g3, g4] using h
      · simpa [bI, g, g2, g3] using h
      · simpa [bI, g, g2, g3, g4] using h
      · simpa [bI, g, g2, g3, g4, g5] using h
      · rw [g2] at g4; exact absurd g4 w13
    · simpa [bI, g] using h
theorem X_canBeOnWay {d : Nat} {σ : Sto} {K : Int32 → Sto → Prop} {a : Nat} (ha : okO σ a 1) (h : K (bI (decide (¬ 2 < gi σ a 4 ∧ gl σ a 6 < gl σ a 7))) σ) : CI d 22 [aR (some a)] σ K := by
  refine CI_of ?_
  show Ev (d, 0, 0) 22 0 [aR (some a)] [] σ _
  simp only [z10, z00, not_true_eq_false, not_false_eq_true, false_implies, true_implies, implies_true, nI_1, Int32.add_zero, true_or, or_true, true_and, and_true, eI_eq, eL_eq, eR_eq, eV_eq, lg_cmp_ge, lg_cmp_le, lg_cmp_gt, lg_cmp_lt, lg_cmp_eq, v_22_0, v_22_1, v_22_4, v_22_5, v_22_8, v_22_9, v_22_12, v_22_13, v_22_16, v_22_17, v_22_20, v_22_21, v_22_24, v_22_25, ha]
  refine ⟨fun g => ?_, fun g => ⟨fun g2 => ?_, fun g2 => ?_⟩⟩
  · rw [decide_eq_false (fun q => q.1 g)] at h; exact h
  · rw [decide_eq_false (fun q => Int64.not_lt.mpr g2 q.2)] at h; exact h
  · rw [decide_eq_true ⟨g, Int64.not_le.mp g2⟩] at h; exact h
/-! the class: a trace counted -/
def kiX (σ : Sto) (l : List Nat) (x : Int32) (a : Nat) : Bool := decide (¬ roI (uX σ l) a = none ∧ ¬ uX σ l a = none ∧ gi σ a 1 = x)
def roX (σ : Sto) (l : List Nat) (a : Nat) : Bool := decide (uX σ l a = none)
def loX (σ : Sto) (l : List Nat) (a : Nat) : Bool := decide (roI (uX σ l) a = none)
def prX (σ : Sto) (l : List Nat) (a : Nat) : Bool := paX σ (uX σ l a) a
def hoX (σ : Sto) (l : List Nat) (a : Nat) : Bool := decide (¬ gi σ a 1 = 0 ∧ uX σ l a = none)
/-- none of the spans ahead of it has its parent -/
def fpX (σ : Sto) (a : Nat) : List Nat → Bool
  | [] => true
  | b :: l => if b = a then true else if gi σ b 1 = gi σ a 1 then false else fpX σ a l
theorem X_kidsOf_loop {d : Nat} {σ : Sto} {K : Int32 → Sto → Prop} {T : Nat} {x : Int32} {l : List Nat} (hS : SET σ l) : ∀ (m : List Nat) (c : Nat), lkt σ m none → (∀ a, a ∈ m → a ∈ l) → K (nI (c + m.countP (kiX σ l x))) σ → Ev (d + 1, 0, 0) 36 11 [aR (some T), aI x, aI (nI c), aR m.head?] [] σ (eI K) := by
  intro m
  induction m with
  | nil =>
    intro c hl hm h
    rw [v_36_11]
    simp only [List.head?_nil, z10, z00, not_true_eq_false, not_false_eq_true, false_implies, true_implies, implies_true, nI_1, Int32.add_zero, true_or, or_true, true_and, and_true, eI_eq, eL_eq, eR_eq, eV_eq, lg_cmp_ge, lg_cmp_le, lg_cmp_gt, lg_cmp_lt, lg_cmp_eq, v_36_12, v_36_15, v_36_16, v_36_17, v_36_18, v_36_21, v_36_24, v_36_25, v_36_28, v_36_29, v_36_30, v_36_31, v_36_32, v_36_35, v_36_36, v_36_39, v_36_40]
    exact h
  | cons a m ih =>
    intro c hl hm h
    obtain ⟨h1, h2, h3, h4⟩ := hl
    rw [Option.or_none] at h3
    have hO := okS_of h1 h2
    obtain ⟨s1, s2, -⟩ := hS a (hm a (List.mem_cons_self ..))
    rw [v_36_11]
    simp only [List.head?_cons, reduceCtorEq, z10, z00, not_true_eq_false, not_false_eq_true, false_implies, true_implies, implies_true, nI_1, Int32.add_zero, true_or, or_true, true_and, and_true, eI_eq, eL_eq, eR_eq, eV_eq, lg_cmp_ge, lg_cmp_le, lg_cmp_gt, lg_cmp_lt, lg_cmp_eq, v_36_12, v_36_15, v_36_16, v_36_17, v_36_18, hO, z10, z00, not_true_eq_false, not_false_eq_true, false_implies, true_implies, implies_true, true_and, and_true, true_or, or_true, false_and, and_false, false_or, or_false]
    refine X_isKidOf hO ?_
    rw [s1, s2, List.countP_cons] at *
    have e : kiX σ l x a = decide (¬ roI (uX σ l) a = none ∧ ¬ uX σ l a = none ∧ gi σ a 1 = x) := rfl
    rw [← e]
    cases hk : kiX σ l x a with
    | false =>
      simp only [bI, Bool.false_eq_true, if_false, z10, z00, not_true_eq_false, not_false_eq_true, false_implies, true_implies, implies_true, nI_1, Int32.add_zero, true_or, or_true, true_and, and_true, eI_eq, eL_eq, eR_eq, eV_eq, lg_cmp_ge, lg_cmp_le, lg_cmp_gt, lg_cmp_lt, lg_cmp_eq, v_36_21, v_36_24, v_36_25, v_36_28, v_36_29, v_36_30, v_36_31, v_36_32, v_36_35, v_36_36, hO, h3, Int32.add_zero, z10, z00, not_true_eq_false, not_false_eq_true, false_implies, true_implies, implies_true, true_and, and_true, true_or, or_true, false_and, and_false, false_or, or_false]
      exact ih c h4 (fun b hb => hm b (List.mem_cons_of_mem _ hb)) (by simpa [hk] using h)
    | true =>
      simp only [bI, if_true, z10, z00, not_true_eq_false, not_false_eq_true, false_implies, true_implies, implies_true, nI_1, Int32.add_zero, true_or, or_true, true_and, and_true, eI_eq, eL_eq, eR_eq, eV_eq, lg_cmp_ge, lg_cmp_le, lg_cmp_gt, lg_cmp_lt, lg_cmp_eq, v_36_21, v_36_24, v_36_25, v_36_28, v_36_29, v_36_30, v_36_31, v_36_32, v_36_35, v_36_36, hO, h3, nI_1, z10, z00, not_true_eq_false, not_false_eq_true, false_implies, true_implies, implies_true, true_and, and_true, true_or, or_true, false_and, and_false, false_or, or_false]
      exact ih (c + 1) h4 (fun b hb => hm b (List.mem_cons_of_mem _ hb)) (by simpa [hk, Nat.add_assoc, Nat.add_comm 1] using h)
theorem X_kidsOf {d : Nat} {σ : Sto} {K : Int32 → Sto → Prop} {T : Nat} {x : Int32} {l : List Nat} (hTr : Tr σ T l) (h : ∀ σ', scS l T σ σ' → Tr σ' T l → SET σ' l → K (nI (l.countP (kiX σ' l x))) σ') : CI (d + 2) 36 [aR (some T), aI x] σ K := by
  refine CI_of ?_
  show Ev (d + 2, 0, 0) 36 0 [aR (some T), aI x, aU, aU] [] σ _
  simp only [z10, z00, not_true_eq_false, not_false_eq_true, false_implies, true_implies, implies_true, nI_1, Int32.add_zero, true_or, or_true, true_and, and_true, eI_eq, eL_eq, eR_eq, eV_eq, lg_cmp_ge, lg_cmp_le, lg_cmp_gt, lg_cmp_lt, lg_cmp_eq, v_36_0, v_36_1, hTr.1]
  refine X_settle hTr (fun σ' hs hTr' hS => ?_)
  simp only [z10, z00, not_true_eq_false, not_false_eq_true, false_implies, true_implies, implies_true, nI_1, Int32.add_zero, true_or, or_true, true_and, and_true, eI_eq, eL_eq, eR_eq, eV_eq, lg_cmp_ge, lg_cmp_le, lg_cmp_gt, lg_cmp_lt, lg_cmp_eq, v_36_4, v_36_5, v_36_6, v_36_7, v_36_10, hTr'.1, hTr'.2.2.1]
  have := X_kidsOf_loop (d := d + 1) (K := K) (T := T) (x := x) hS l 0 hTr'.2.2.2.1 (fun _ q => q) (by simpa using h σ' hs hTr' hS)
  simpa only [nI_0] using this
theorem X_roots_loop {d : Nat} {σ : Sto} {K : Int32 → Sto → Prop} {T : Nat} {l : List Nat} (hS : SET σ l) : ∀ (m : List Nat) (c : Nat), lkt σ m none → (∀ a, a ∈ m → a ∈ l) → K (nI (c + m.countP (roX σ l))) σ → Ev (d + 1, 0, 0) 38 11 [aR (some T), aI (nI c), aR m.head?] [] σ (eI K) := by
  intro m
  induction m with
  | nil =>
    intro c hl hm h
    rw [v_38_11]
    simp only [List.head?_nil, z10, z00, not_true_eq_false, not_false_eq_true, false_implies, true_implies, implies_true, nI_1, Int32.add_zero, true_or, or_true, true_and, and_true, eI_eq, eL_eq, eR_eq, eV_eq, lg_cmp_ge, lg_cmp_le, lg_cmp_gt, lg_cmp_lt, lg_cmp_eq, v_38_12, v_38_15, v_38_16, v_38_17, v_38_20, v_38_23, v_38_24, v_38_27, v_38_28, v_38_29, v_38_30, v_38_31, v_38_34, v_38_35, v_38_38, v_38_39]
    exact h
  | cons a m ih =>
    intro c hl hm h
    obtain ⟨h1, h2, h3, h4⟩ := hl
    rw [Option.or_none] at h3
    have hO := okS_of h1 h2
    obtain ⟨s1, s2, -⟩ := hS a (hm a (List.mem_cons_self ..))
    rw [v_38_11]
    simp only [List.head?_cons, reduceCtorEq, z10, z00, not_true_eq_false, not_false_eq_true, false_implies, true_implies, implies_true, nI_1, Int32.add_zero, true_or, or_true, true_and, and_true, eI_eq, eL_eq, eR_eq, eV_eq, lg_cmp_ge, lg_cmp_le, lg_cmp_gt, lg_cmp_lt, lg_cmp_eq, v_38_12, v_38_15, v_38_16, v_38_17, hO, z10, z00, not_true_eq_false, not_false_eq_true, false_implies, true_implies, implies_true, true_and, and_true, true_or, or_true, false_and, and_false, false_or, or_false]
    refine X_isRoot hO ?_
    rw [s1, List.countP_cons] at *
    have e : roX σ l a = decide (uX σ l a = none) := rfl
    rw [← e]
    cases hk : roX σ l a with
    | false =>
      simp only [bI, Bool.false_eq_true, if_false, z10, z00, not_true_eq_false, not_false_eq_true, false_implies, true_implies, implies_true, nI_1, Int32.add_zero, true_or, or_true, true_and, and_true, eI_eq, eL_eq, eR_eq, eV_eq, lg_cmp_ge, lg_cmp_le, lg_cmp_gt, lg_cmp_lt, lg_cmp_eq, v_38_20, v_38_23, v_38_24, v_38_27, v_38_28, v_38_29, v_38_30, v_38_31, v_38_34, v_38_35, hO, h3, Int32.add_zero, z10, z00, not_true_eq_false, not_false_eq_true, false_implies, true_implies, implies_true, true_and, and_true, true_or, or_true, false_and, and_false, false_or, or_false]
      exact ih c h4 (fun b hb => hm b (List.mem_cons_of_mem _ hb)) (by simpa [hk] using h)
    | true =>
      simp only [bI, if_true, z10, z00, not_true_eq_false, not_false_eq_true, false_implies, true_implies, implies_true, nI_1, Int32.add_zero, true_or, or_true, true_and, and_true, eI_eq, eL_eq, eR_eq, eV_eq, lg_cmp_ge, lg_cmp_le, lg_cmp_gt, lg_cmp_lt, lg_cmp_eq, v_38_20, v_38_23, v_38_24, v_38_27, v_38_28, v_38_29, v_38_30, v_38_31, v_38_34, v_38_35, hO, h3, nI_1, z10, z00, not_true_eq_false, not_false_eq_true, false_implies, true_implies, implies_true, true_and, and_true, true_or, or_true, false_and, and_false, false_or, or_false]
      exact ih (c + 1) h4 (fun b hb => hm b (List.mem_cons_of_mem _ hb)) (by simpa [hk, Nat.add_assoc, Nat.add_comm 1] using h)
theorem X_roots {d : Nat} {σ : Sto} {K : Int32 → Sto → Prop} {T : Nat} {l : List Nat} (hTr : Tr σ T l) (h : ∀ σ', scS l T σ σ' → Tr σ' T l → SET σ' l → K (nI (l.countP (roX σ' l))) σ') : CI (d + 2) 38 [aR (some T)] σ K := by
  refine CI_of ?_
  show Ev (d + 2, 0, 0) 38 0 [aR (some T), aU, aU] [] σ _
  simp only [z10, z00, not_true_eq_false, not_false_eq_true, false_implies, true_implies, implies_true, nI_1, Int32.add_zero, true_or, or_true, true_and, and_true, eI_eq, eL_eq, eR_eq, eV_eq, lg_cmp_ge, lg_cmp_le, lg_cmp_gt, lg_cmp_lt, lg_cmp_eq, v_38_0, v_38_1, hTr.1]
  refine X_settle hTr (fun σ' hs hTr' hS => ?_)
  simp only [z10, z00, not_true_eq_false, not_false_eq_true, false_implies, true_implies, implies_true, nI_1, Int32.add_zero, true_or, or_true, true_and, and_true, eI_eq, eL_eq, eR_eq, eV_eq, lg_cmp_ge, lg_cmp_le, lg_cmp_gt, lg_cmp_lt, lg_cmp_eq, v_38_4, v_38_5, v_38_6, v_38_7, v_38_10, hTr'.1, hTr'.2.2.1]
  have := X_roots_loop (d := d + 1) (K := K) (T := T) hS l 0 hTr'.2.2.2.1 (fun _ q => q) (by simpa using h σ' hs hTr' hS)
  simpa only [nI_0] using this
theorem X_lost_loop {b : B3} {σ : Sto} {K : Int32 → Sto → Prop} {T : Nat} {l : List Nat} (hS : SET σ l) : ∀ (m : List Nat) (c : Nat), lkt σ m none → (∀ a, a ∈ m → a ∈ l) → K (nI (c + m.countP (loX σ l))) σ → Ev b 42 11 [aR (some T), aI (nI c), aR m.head?] [] σ (eI K) := by
  intro m
  induction m with
  | nil =>
    intro c hl hm h
    rw [v_42_11]
    simp only [List.head?_nil, z10, z00, not_true_eq_false, not_false_eq_true, false_implies, true_implies, implies_true, nI_1, Int32.add_zero, true_or, or_true, true_and, and_true, eI_eq, eL_eq, eR_eq, eV_eq, lg_cmp_ge, lg_cmp_le, lg_cmp_gt, lg_cmp_lt, lg_cmp_eq, v_42_12, v_42_15, v_42_16, v_42_17, v_42_20, v_42_23, v_42_24, v_42_27, v_42_28, v_42_29, v_42_30, v_42_31, v_42_34, v_42_35, v_42_38, v_42_39]
    exact h
  | cons a m ih =>
    intro c hl hm h
    obtain ⟨h1, h2, h3, h4⟩ := hl
    rw [Option.or_none] at h3
    have hO := okS_of h1 h2
    obtain ⟨s1, s2, -⟩ := hS a (hm a (List.mem_cons_self ..))
    rw [v_42_11]
    simp only [List.head?_cons, reduceCtorEq, z10, z00, not_true_eq_false, not_false_eq_true, false_implies, true_implies, implies_true, nI_1, Int32.add_zero, true_or, or_true, true_and, and_true, eI_eq, eL_eq, eR_eq, eV_eq, lg_cmp_ge, lg_cmp_le, lg_cmp_gt, lg_cmp_lt, lg_cmp_eq, v_42_12, v_42_15, v_42_16, v_42_17, v_42_20, v_42_23, v_42_24, v_42_27, v_42_28, v_42_29, v_42_30, v_42_31, v_42_34, v_42_35, hO, s2, h3, Int32.add_zero, nI_1, z10, z00, not_true_eq_false, not_false_eq_true, false_implies, true_implies, implies_true, true_and, and_true, true_or, or_true, false_and, and_false, false_or, or_false]
    rw [List.countP_cons] at h
    have e : loX σ l a = decide (roI (uX σ l) a = none) := rfl
    rw [e] at h
    exact ⟨fun g => ih c h4 (fun b hb => hm b (List.mem_cons_of_mem _ hb)) (by simpa [g] using h), fun g => ih (c + 1) h4 (fun b hb => hm b (List.mem_cons_of_mem _ hb)) (by simpa [g, Nat.add_assoc, Nat.add_comm 1] using h)⟩
theorem X_lost {d : Nat} {σ : Sto} {K : Int32 → Sto → Prop} {T : Nat} {l : List Nat} (hTr : Tr σ T l) (h : ∀ σ', scS l T σ σ' → Tr σ' T l → SET σ' l → K (nI (l.countP (loX σ' l))) σ') : CI (d + 2) 42 [aR (some T)] σ K := by
  refine CI_of ?_
  show Ev (d + 2, 0, 0) 42 0 [aR (some T), aU, aU] [] σ _
  simp only [z10, z00, not_true_eq_false, not_false_eq_true, false_implies, true_implies, implies_true, nI_1, Int32.add_zero, true_or, or_true, true_and, and_true, eI_eq, eL_eq, eR_eq, eV_eq, lg_cmp_ge, lg_cmp_le, lg_cmp_gt, lg_cmp_lt, lg_cmp_eq, v_42_0, v_42_1, hTr.1]
  refine X_settle hTr (fun σ' hs hTr' hS => ?_)
  simp only [z10, z00, not_true_eq_false, not_false_eq_true, false_implies, true_implies, implies_true, nI_1, Int32.add_zero, true_or, or_true, true_and, and_true, eI_eq, eL_eq, eR_eq, eV_eq, lg_cmp_ge, lg_cmp_le, lg_cmp_gt, lg_cmp_lt, lg_cmp_eq, v_42_4, v_42_5, v_42_6, v_42_7, v_42_10, hTr'.1, hTr'.2.2.1]
  have := X_lost_loop (b := (d + 2, 0, 0)) (K := K) (T := T) hS l 0 hTr'.2.2.2.1 (fun _ q => q) (by simpa using h σ' hs hTr' hS)
  simpa only [nI_0] using this
theorem X_pairs_loop {d : Nat} {σ : Sto} {K : Int32 → Sto → Prop} {T : Nat} {l : List Nat} (hS : SET σ l) (hll : ∀ a, a ∈ l → okO σ a 1) : ∀ (m : List Nat) (c : Nat), lkt σ m none → (∀ a, a ∈ m → a ∈ l) → K (nI (c + m.countP (prX σ l))) σ → Ev (d + 1, 0, 0) 43 11 [aR (some T), aI (nI c), aR m.head?] [] σ (eI K) := by
  intro m
  induction m with
  | nil =>
    intro c hl hm h
    rw [v_43_11]
    simp only [List.head?_nil, z10, z00, not_true_eq_false, not_false_eq_true, false_implies, true_implies, implies_true, nI_1, Int32.add_zero, true_or, or_true, true_and, and_true, eI_eq, eL_eq, eR_eq, eV_eq, lg_cmp_ge, lg_cmp_le, lg_cmp_gt, lg_cmp_lt, lg_cmp_eq, v_43_12, v_43_15, v_43_16, v_43_17, v_43_20, v_43_23, v_43_24, v_43_27, v_43_28, v_43_29, v_43_30, v_43_31, v_43_34, v_43_35, v_43_38, v_43_39]
    exact h
  | cons a m ih =>
    intro c hl hm h
    obtain ⟨h1, h2, h3, h4⟩ := hl
    rw [Option.or_none] at h3
    have hO := okS_of h1 h2
    obtain ⟨s1, s2, -⟩ := hS a (hm a (List.mem_cons_self ..))
    rw [v_43_11]
    simp only [List.head?_cons, reduceCtorEq, z10, z00, not_true_eq_false, not_false_eq_true, false_implies, true_implies, implies_true, nI_1, Int32.add_zero, true_or, or_true, true_and, and_true, eI_eq, eL_eq, eR_eq, eV_eq, lg_cmp_ge, lg_cmp_le, lg_cmp_gt, lg_cmp_lt, lg_cmp_eq, v_43_12, v_43_15, v_43_16, v_43_17, hO, z10, z00, not_true_eq_false, not_false_eq_true, false_implies, true_implies, implies_true, true_and, and_true, true_or, or_true, false_and, and_false, false_or, or_false]
    refine X_isPair hO (fun p hp => hll p (uX_mem (by rw [← s1]; exact hp))) ?_
    rw [s1, List.countP_cons] at *
    have e : prX σ l a = paX σ (uX σ l a) a := rfl
    rw [← e]
    cases hk : prX σ l a with
    | false =>
      simp only [bI, Bool.false_eq_true, if_false, z10, z00, not_true_eq_false, not_false_eq_true, false_implies, true_implies, implies_true, nI_1, Int32.add_zero, true_or, or_true, true_and, and_true, eI_eq, eL_eq, eR_eq, eV_eq, lg_cmp_ge, lg_cmp_le, lg_cmp_gt, lg_cmp_lt, lg_cmp_eq, v_43_20, v_43_23, v_43_24, v_43_27, v_43_28, v_43_29, v_43_30, v_43_31, v_43_34, v_43_35, hO, h3, Int32.add_zero, z10, z00, not_true_eq_false, not_false_eq_true, false_implies, true_implies, implies_true, true_and, and_true, true_or, or_true, false_and, and_false, false_or, or_false]
      exact ih c h4 (fun b hb => hm b (List.mem_cons_of_mem _ hb)) (by simpa [hk] using h)
    | true =>
      simp only [bI, if_true, z10, z00, not_true_eq_false, not_false_eq_true, false_implies, true_implies, implies_true, nI_1, Int32.add_zero, true_or, or_true, true_and, and_true, eI_eq, eL_eq, eR_eq, eV_eq, lg_cmp_ge, lg_cmp_le, lg_cmp_gt, lg_cmp_lt, lg_cmp_eq, v_43_20, v_43_23, v_43_24, v_43_27, v_43_28, v_43_29, v_43_30, v_43_31, v_43_34, v_43_35, hO, h3, nI_1, z10, z00, not_true_eq_false, not_false_eq_true, false_implies, true_implies, implies_true, true_and, and_true, true_or, or_true, false_and, and_false, false_or, or_false]
      exact ih (c + 1) h4 (fun b hb => hm b (List.mem_cons_of_mem _ hb)) (by simpa [hk, Nat.add_assoc, Nat.add_comm 1] using h)
theorem Tr.ok {σ : Sto} {T : Nat} {l : List Nat} (h : Tr σ T l) : ∀ a, a ∈ l → okO σ a 1 := fun a ha => okS_of (lkt_mem h.2.2.2.1 a ha).1 (lkt_mem h.2.2.2.1 a ha).2
theorem X_pairs {d : Nat} {σ : Sto} {K : Int32 → Sto → Prop} {T : Nat} {l : List Nat} (hTr : Tr σ T l) (h : ∀ σ', scS l T σ σ' → Tr σ' T l → SET σ' l → K (nI (l.countP (prX σ' l))) σ') : CI (d + 2) 43 [aR (some T)] σ K := by
  refine CI_of ?_
  show Ev (d + 2, 0, 0) 43 0 [aR (some T), aU, aU] [] σ _
  simp only [z10, z00, not_true_eq_false, not_false_eq_true, false_implies, true_implies, implies_true, nI_1, Int32.add_zero, true_or, or_true, true_and, and_true, eI_eq, eL_eq, eR_eq, eV_eq, lg_cmp_ge, lg_cmp_le, lg_cmp_gt, lg_cmp_lt, lg_cmp_eq, v_43_0, v_43_1, hTr.1]
  refine X_settle hTr (fun σ' hs hTr' hS => ?_)
  simp only [z10, z00, not_true_eq_false, not_false_eq_true, false_implies, true_implies, implies_true, nI_1, Int32.add_zero, true_or, or_true, true_and, and_true, eI_eq, eL_eq, eR_eq, eV_eq, lg_cmp_ge, lg_cmp_le, lg_cmp_gt, lg_cmp_lt, lg_cmp_eq, v_43_4, v_43_5, v_43_6, v_43_7, v_43_10, hTr'.1, hTr'.2.2.1]
  have := X_pairs_loop (d := d + 1) (K := K) (T := T) hS hTr'.ok l 0 hTr'.2.2.2.1 (fun _ q => q) (by simpa using h σ' hs hTr' hS)
  simpa only [nI_0] using this
theorem X_isFirstOfParent_loop {b : B3} {σ : Sto} {K : Int32 → Sto → Prop} {T a : Nat} (ha : okO σ a 1) : ∀ (m : List Nat), lkt σ m none → K (bI (fpX σ a m)) σ → Ev b 41 5 [aR (some T), aR (some a), aR m.head?] [] σ (eI K) := by
  intro m
  induction m with
  | nil =>
    intro hl h
    rw [v_41_5]
    simp only [List.head?_nil, z10, z00, not_true_eq_false, not_false_eq_true, false_implies, true_implies, implies_true, nI_1, Int32.add_zero, true_or, or_true, true_and, and_true, eI_eq, eL_eq, eR_eq, eV_eq, lg_cmp_ge, lg_cmp_le, lg_cmp_gt, lg_cmp_lt, lg_cmp_eq, v_41_6, v_41_9, v_41_10, v_41_11, v_41_14, v_41_15, v_41_18, v_41_19, v_41_22, v_41_25, v_41_26, v_41_27, v_41_28, v_41_31, v_41_32, v_41_35, v_41_36]
    exact h
  | cons c m ih =>
    intro hl h
    obtain ⟨h1, h2, h3, h4⟩ := hl
    rw [Option.or_none] at h3
    have hO := okS_of h1 h2
    rw [v_41_5]
    simp only [List.head?_cons, reduceCtorEq, Option.some.injEq, z10, z00, not_true_eq_false, not_false_eq_true, false_implies, true_implies, implies_true, nI_1, Int32.add_zero, true_or, or_true, true_and, and_true, eI_eq, eL_eq, eR_eq, eV_eq, lg_cmp_ge, lg_cmp_le, lg_cmp_gt, lg_cmp_lt, lg_cmp_eq, v_41_6, v_41_9, v_41_10, v_41_11, v_41_14, v_41_15, v_41_18, v_41_19, v_41_22, v_41_25, v_41_26, v_41_27, v_41_28, v_41_31, v_41_32, v_41_35, v_41_36, hO, ha, h3, z10, z00, not_true_eq_false, not_false_eq_true, false_implies, true_implies, implies_true, true_and, and_true, true_or, or_true, false_and, and_false, false_or, or_false]
    unfold fpX at h
    exact ⟨fun g => by rw [if_pos g] at h; exact h, fun g => ⟨fun g2 => ih h4 (by rw [if_neg g, if_neg g2] at h; exact h), fun g2 => by rw [if_neg g, if_pos g2] at h; exact h⟩⟩
theorem X_isFirstOfParent {d : Nat} {σ : Sto} {K : Int32 → Sto → Prop} {T a : Nat} {l : List Nat} (hTr : Tr σ T l) (ha : okO σ a 1) (h : K (bI (fpX σ a l)) σ) : CI d 41 [aR (some T), aR (some a)] σ K := by
  refine CI_of ?_
  show Ev (d, 0, 0) 41 0 [aR (some T), aR (some a), aU] [] σ _
  simp only [z10, z00, not_true_eq_false, not_false_eq_true, false_implies, true_implies, implies_true, nI_1, Int32.add_zero, true_or, or_true, true_and, and_true, eI_eq, eL_eq, eR_eq, eV_eq, lg_cmp_ge, lg_cmp_le, lg_cmp_gt, lg_cmp_lt, lg_cmp_eq, v_41_0, v_41_1, v_41_4, hTr.1, hTr.2.2.1]
  exact X_isFirstOfParent_loop ha l hTr.2.2.2.1 h
def hfX (σ : Sto) (l : List Nat) (a : Nat) : Bool := hoX σ l a && fpX σ a l
theorem X_holes_loop {d : Nat} {σ : Sto} {K : Int32 → Sto → Prop} {T : Nat} {l : List Nat} (hTr : Tr σ T l) (hS : SET σ l) : ∀ (m : List Nat) (c : Nat), lkt σ m none → (∀ a, a ∈ m → a ∈ l) → K (nI (c + m.countP (hfX σ l))) σ → Ev (d + 1, 0, 0) 40 11 [aR (some T), aI (nI c), aR m.head?] [] σ (eI K) := by
  intro m
  induction m with
  | nil =>
    intro c hl hm h
    rw [v_40_11]
    simp only [List.head?_nil, z10, z00, not_true_eq_false, not_false_eq_true, false_implies, true_implies, implies_true, nI_1, Int32.add_zero, true_or, or_true, true_and, and_true, eI_eq, eL_eq, eR_eq, eV_eq, lg_cmp_ge, lg_cmp_le, lg_cmp_gt, lg_cmp_lt, lg_cmp_eq, v_40_12, v_40_15, v_40_16, v_40_17, v_40_20, v_40_23, v_40_24, v_40_25, v_40_28, v_40_31, v_40_32, v_40_35, v_40_36, v_40_37, v_40_38, v_40_39, v_40_42, v_40_43, v_40_46, v_40_47]
    exact h
  | cons a m ih =>
    intro c hl hm h
    obtain ⟨h1, h2, h3, h4⟩ := hl
    rw [Option.or_none] at h3
    have hO := okS_of h1 h2
    obtain ⟨s1, s2, -⟩ := hS a (hm a (List.mem_cons_self ..))
    rw [v_40_11]
    simp only [List.head?_cons, reduceCtorEq, z10, z00, not_true_eq_false, not_false_eq_true, false_implies, true_implies, implies_true, nI_1, Int32.add_zero, true_or, or_true, true_and, and_true, eI_eq, eL_eq, eR_eq, eV_eq, lg_cmp_ge, lg_cmp_le, lg_cmp_gt, lg_cmp_lt, lg_cmp_eq, v_40_12, v_40_15, v_40_16, v_40_17, hO, z10, z00, not_true_eq_false, not_false_eq_true, false_implies, true_implies, implies_true, true_and, and_true, true_or, or_true, false_and, and_false, false_or, or_false]
    refine X_hasHole hO ?_
    rw [s1, List.countP_cons] at *
    have e : hoX σ l a = decide (¬ gi σ a 1 = 0 ∧ uX σ l a = none) := rfl
    have e2 : hfX σ l a = (hoX σ l a && fpX σ a l) := rfl
    rw [← e]
    cases hk : hoX σ l a with
    | false =>
      simp only [bI, Bool.false_eq_true, if_false, z10, z00, not_true_eq_false, not_false_eq_true, false_implies, true_implies, implies_true, nI_1, Int32.add_zero, true_or, or_true, true_and, and_true, eI_eq, eL_eq, eR_eq, eV_eq, lg_cmp_ge, lg_cmp_le, lg_cmp_gt, lg_cmp_lt, lg_cmp_eq, v_40_20, v_40_23, v_40_24, v_40_25, v_40_28, v_40_31, v_40_32, v_40_35, v_40_36, v_40_37, v_40_38, v_40_39, v_40_42, v_40_43, hO, h3, Int32.add_zero, z10, z00, not_true_eq_false, not_false_eq_true, false_implies, true_implies, implies_true, true_and, and_true, true_or, or_true, false_and, and_false, false_or, or_false]
      exact ih c h4 (fun b hb => hm b (List.mem_cons_of_mem _ hb)) (by simpa [e2, hk] using h)
    | true =>
      simp only [bI, if_true, z10, z00, not_true_eq_false, not_false_eq_true, false_implies, true_implies, implies_true, nI_1, Int32.add_zero, true_or, or_true, true_and, and_true, eI_eq, eL_eq, eR_eq, eV_eq, lg_cmp_ge, lg_cmp_le, lg_cmp_gt, lg_cmp_lt, lg_cmp_eq, v_40_20, v_40_23, v_40_24, v_40_25, hTr.1, z10, z00, not_true_eq_false, not_false_eq_true, false_implies, true_implies, implies_true, true_and, and_true, true_or, or_true, false_and, and_false, false_or, or_false]
      refine X_isFirstOfParent hTr hO ?_
      cases hp : fpX σ a l with
      | false =>
        simp only [bI, Bool.false_eq_true, if_false, z10, z00, not_true_eq_false, not_false_eq_true, false_implies, true_implies, implies_true, nI_1, Int32.add_zero, true_or, or_true, true_and, and_true, eI_eq, eL_eq, eR_eq, eV_eq, lg_cmp_ge, lg_cmp_le, lg_cmp_gt, lg_cmp_lt, lg_cmp_eq, v_40_28, v_40_31, v_40_32, v_40_35, v_40_36, v_40_37, v_40_38, v_40_39, v_40_42, v_40_43, hO, h3, Int32.add_zero, z10, z00, not_true_eq_false, not_false_eq_true, false_implies, true_implies, implies_true, true_and, and_true, true_or, or_true, false_and, and_false, false_or, or_false]
        exact ih c h4 (fun b hb => hm b (List.mem_cons_of_mem _ hb)) (by simpa [e2, hk, hp] using h)
      | true =>
        simp only [bI, if_true, z10, z00, not_true_eq_false, not_false_eq_true, false_implies, true_implies, implies_true, nI_1, Int32.add_zero, true_or, or_true, true_and, and_true, eI_eq, eL_eq, eR_eq, eV_eq, lg_cmp_ge, lg_cmp_le, lg_cmp_gt, lg_cmp_lt, lg_cmp_eq, v_40_28, v_40_31, v_40_32, v_40_35, v_40_36, v_40_37, v_40_38, v_40_39, v_40_42, v_40_43, hO, h3, nI_1, z10, z00, not_true_eq_false, not_false_eq_true, false_implies, true_implies, implies_true, true_and, and_true, true_or, or_true, false_and, and_false, false_or, or_false]
        exact ih (c + 1) h4 (fun b hb => hm b (List.mem_cons_of_mem _ hb)) (by simpa [e2, hk, hp, Nat.add_assoc, Nat.add_comm 1] using h)
theorem X_holes {d : Nat} {σ : Sto} {K : Int32 → Sto → Prop} {T : Nat} {l : List Nat} (hTr : Tr σ T l) (h : ∀ σ', scS l T σ σ' → Tr σ' T l → SET σ' l → K (nI (l.countP (hfX σ' l))) σ') : CI (d + 2) 40 [aR (some T)] σ K := by
  refine CI_of ?_
  show Ev (d + 2, 0, 0) 40 0 [aR (some T), aU, aU] [] σ _
  simp only [z10, z00, not_true_eq_false, not_false_eq_true, false_implies, true_implies, implies_true, nI_1, Int32.add_zero, true_or, or_true, true_and, and_true, eI_eq, eL_eq, eR_eq, eV_eq, lg_cmp_ge, lg_cmp_le, lg_cmp_gt, lg_cmp_lt, lg_cmp_eq, v_40_0, v_40_1, hTr.1]
  refine X_settle hTr (fun σ' hs hTr' hS => ?_)
  simp only [z10, z00, not_true_eq_false, not_false_eq_true, false_implies, true_implies, implies_true, nI_1, Int32.add_zero, true_or, or_true, true_and, and_true, eI_eq, eL_eq, eR_eq, eV_eq, lg_cmp_ge, lg_cmp_le, lg_cmp_gt, lg_cmp_lt, lg_cmp_eq, v_40_4, v_40_5, v_40_6, v_40_7, v_40_10, hTr'.1, hTr'.2.2.1]
  have := X_holes_loop (d := d + 1) (K := K) (T := T) hTr' hS l 0 hTr'.2.2.2.1 (fun _ q => q) (by simpa using h σ' hs hTr' hS)
  simpa only [nI_0] using this
/-- the i-th of those that p takes -/
def atL (p : Nat → Bool) : Int32 → List Nat → Option Nat
  | _, [] => none
  | i, a :: l => if p a then (if i = 0 then some a else atL p (i + (-1)) l) else atL p i l
theorem X_kidAt_loop {d : Nat} {σ : Sto} {K : Option Nat → Sto → Prop} {T : Nat} {x i0 : Int32} {l : List Nat} (hS : SET σ l) : ∀ (m : List Nat) (i : Int32), lkt σ m none → (∀ a, a ∈ m → a ∈ l) → K (atL (kiX σ l x) i m) σ → Ev (d + 1, 0, 0) 37 12 [aR (some T), aI x, aI i0, aI i, aR m.head?] [] σ (eR K) := by
  intro m
  induction m with
  | nil =>
    intro i hl hm h
    rw [v_37_12]
    simp only [List.head?_nil, z10, z00, not_true_eq_false, not_false_eq_true, false_implies, true_implies, implies_true, nI_1, Int32.add_zero, true_or, or_true, true_and, and_true, eI_eq, eL_eq, eR_eq, eV_eq, lg_cmp_ge, lg_cmp_le, lg_cmp_gt, lg_cmp_lt, lg_cmp_eq, v_37_14, v_37_17, v_37_19, v_37_20, v_37_23, v_37_26, v_37_27, v_37_30, v_37_32, v_37_33, v_37_36, v_37_38, v_37_41, v_37_43, v_37_46, v_37_47]
    exact h
  | cons a m ih =>
    intro i hl hm h
    obtain ⟨h1, h2, h3, h4⟩ := hl
    rw [Option.or_none] at h3
    have hO := okS_of h1 h2
    obtain ⟨s1, s2, -⟩ := hS a (hm a (List.mem_cons_self ..))
    rw [v_37_12]
    simp only [List.head?_cons, reduceCtorEq, z10, z00, not_true_eq_false, not_false_eq_true, false_implies, true_implies, implies_true, nI_1, Int32.add_zero, true_or, or_true, true_and, and_true, eI_eq, eL_eq, eR_eq, eV_eq, lg_cmp_ge, lg_cmp_le, lg_cmp_gt, lg_cmp_lt, lg_cmp_eq, v_37_14, v_37_17, v_37_19, v_37_20, hO, z10, z00, not_true_eq_false, not_false_eq_true, false_implies, true_implies, implies_true, true_and, and_true, true_or, or_true, false_and, and_false, false_or, or_false]
    refine X_isKidOf hO ?_
    rw [s1, s2]
    have e : kiX σ l x a = decide (¬ roI (uX σ l) a = none ∧ ¬ uX σ l a = none ∧ gi σ a 1 = x) := rfl
    rw [← e]
    unfold atL at h
    cases hk : kiX σ l x a with
    | false =>
      simp only [bI, Bool.false_eq_true, if_false, z10, z00, not_true_eq_false, not_false_eq_true, false_implies, true_implies, implies_true, nI_1, Int32.add_zero, true_or, or_true, true_and, and_true, eI_eq, eL_eq, eR_eq, eV_eq, lg_cmp_ge, lg_cmp_le, lg_cmp_gt, lg_cmp_lt, lg_cmp_eq, v_37_23, v_37_26, v_37_27, v_37_30, v_37_32, v_37_33, v_37_36, v_37_38, v_37_41, v_37_43, hO, h3, z10, z00, not_true_eq_false, not_false_eq_true, false_implies, true_implies, implies_true, true_and, and_true, true_or, or_true, false_and, and_false, false_or, or_false]
      exact ih i h4 (fun b hb => hm b (List.mem_cons_of_mem _ hb)) (by simpa [hk] using h)
    | true =>
      simp only [bI, if_true, z10, z00, not_true_eq_false, not_false_eq_true, false_implies, true_implies, implies_true, nI_1, Int32.add_zero, true_or, or_true, true_and, and_true, eI_eq, eL_eq, eR_eq, eV_eq, lg_cmp_ge, lg_cmp_le, lg_cmp_gt, lg_cmp_lt, lg_cmp_eq, v_37_23, v_37_26, v_37_27, v_37_30, v_37_32, v_37_33, v_37_36, v_37_38, v_37_41, v_37_43, hO, h3, z10, z00, not_true_eq_false, not_false_eq_true, false_implies, true_implies, implies_true, true_and, and_true, true_or, or_true, false_and, and_false, false_or, or_false]
      rw [hk, if_pos rfl] at h
      exact ⟨fun g => ih _ h4 (fun b hb => hm b (List.mem_cons_of_mem _ hb)) (by rw [if_neg g] at h; exact h), fun g => by rw [if_pos g] at h; exact h⟩
theorem X_kidAt {d : Nat} {σ : Sto} {K : Option Nat → Sto → Prop} {T : Nat} {x i : Int32} {l : List Nat} (hTr : Tr σ T l) (h : ∀ σ', scS l T σ σ' → Tr σ' T l → SET σ' l → K (atL (kiX σ' l x) i l) σ') : CR (d + 2) 37 [aR (some T), aI x, aI i] σ K := by
  refine CR_of ?_
  show Ev (d + 2, 0, 0) 37 0 [aR (some T), aI x, aI i, aU, aU] [] σ _
  simp only [z10, z00, not_true_eq_false, not_false_eq_true, false_implies, true_implies, implies_true, nI_1, Int32.add_zero, true_or, or_true, true_and, and_true, eI_eq, eL_eq, eR_eq, eV_eq, lg_cmp_ge, lg_cmp_le, lg_cmp_gt, lg_cmp_lt, lg_cmp_eq, v_37_0, v_37_1, hTr.1]
  refine X_settle hTr (fun σ' hs hTr' hS => ?_)
  simp only [z10, z00, not_true_eq_false, not_false_eq_true, false_implies, true_implies, implies_true, nI_1, Int32.add_zero, true_or, or_true, true_and, and_true, eI_eq, eL_eq, eR_eq, eV_eq, lg_cmp_ge, lg_cmp_le, lg_cmp_gt, lg_cmp_lt, lg_cmp_eq, v_37_4, v_37_5, v_37_6, v_37_7, v_37_10, hTr'.1, hTr'.2.2.1]
  exact X_kidAt_loop (d := d + 1) (K := K) (T := T) hS l i hTr'.2.2.2.1 (fun _ q => q) (h σ' hs hTr' hS)
theorem X_rootAt_loop {d : Nat} {σ : Sto} {K : Option Nat → Sto → Prop} {T : Nat} {i0 : Int32} {l : List Nat} (hS : SET σ l) : ∀ (m : List Nat) (i : Int32), lkt σ m none → (∀ a, a ∈ m → a ∈ l) → K (atL (roX σ l) i m) σ → Ev (d + 1, 0, 0) 39 11 [aR (some T), aI i0, aI i, aR m.head?] [] σ (eR K) := by
  intro m
  induction m with
  | nil =>
    intro i hl hm h
    rw [v_39_11]
    simp only [List.head?_nil, z10, z00, not_true_eq_false, not_false_eq_true, false_implies, true_implies, implies_true, nI_1, Int32.add_zero, true_or, or_true, true_and, and_true, eI_eq, eL_eq, eR_eq, eV_eq, lg_cmp_ge, lg_cmp_le, lg_cmp_gt, lg_cmp_lt, lg_cmp_eq, v_39_12, v_39_15, v_39_16, v_39_19, v_39_22, v_39_23, v_39_26, v_39_27, v_39_28, v_39_31, v_39_32, v_39_35, v_39_36, v_39_39, v_39_40]
    exact h
  | cons a m ih =>
    intro i hl hm h
    obtain ⟨h1, h2, h3, h4⟩ := hl
    rw [Option.or_none] at h3
    have hO := okS_of h1 h2
    obtain ⟨s1, s2, -⟩ := hS a (hm a (List.mem_cons_self ..))
    rw [v_39_11]
    simp only [List.head?_cons, reduceCtorEq, z10, z00, not_true_eq_false, not_false_eq_true, false_implies, true_implies, implies_true, nI_1, Int32.add_zero, true_or, or_true, true_and, and_true, eI_eq, eL_eq, eR_eq, eV_eq, lg_cmp_ge, lg_cmp_le, lg_cmp_gt, lg_cmp_lt, lg_cmp_eq, v_39_12, v_39_15, v_39_16, hO, z10, z00, not_true_eq_false, not_false_eq_true, false_implies, true_implies, implies_true, true_and, and_true, true_or, or_true, false_and, and_false, false_or, or_false]
    refine X_isRoot hO ?_
    rw [s1]
    have e : roX σ l a = decide (uX σ l a = none) := rfl
    rw [← e]
    unfold atL at h
    cases hk : roX σ l a with
    | false =>
      simp only [bI, Bool.false_eq_true, if_false, z10, z00, not_true_eq_false, not_false_eq_true, false_implies, true_implies, implies_true, nI_1, Int32.add_zero, true_or, or_true, true_and, and_true, eI_eq, eL_eq, eR_eq, eV_eq, lg_cmp_ge, lg_cmp_le, lg_cmp_gt, lg_cmp_lt, lg_cmp_eq, v_39_19, v_39_22, v_39_23, v_39_26, v_39_27, v_39_28, v_39_31, v_39_32, v_39_35, v_39_36, hO, h3, z10, z00, not_true_eq_false, not_false_eq_true, false_implies, true_implies, implies_true, true_and, and_true, true_or, or_true, false_and, and_false, false_or, or_false]
      exact ih i h4 (fun b hb => hm b (List.mem_cons_of_mem _ hb)) (by simpa [hk] using h)
    | true =>
      simp only [bI, if_true, z10, z00, not_true_eq_false, not_false_eq_true, false_implies, true_implies, implies_true, nI_1, Int32.add_zero, true_or, or_true, true_and, and_true, eI_eq, eL_eq, eR_eq, eV_eq, lg_cmp_ge, lg_cmp_le, lg_cmp_gt, lg_cmp_lt, lg_cmp_eq, v_39_19, v_39_22, v_39_23, v_39_26, v_39_27, v_39_28, v_39_31, v_39_32, v_39_35, v_39_36, hO, h3, z10, z00, not_true_eq_false, not_false_eq_true, false_implies, true_implies, implies_true, true_and, and_true, true_or, or_true, false_and, and_false, false_or, or_false]
      rw [hk, if_pos rfl] at h
      exact ⟨fun g => ih _ h4 (fun b hb => hm b (List.mem_cons_of_mem _ hb)) (by rw [if_neg g] at h; exact h), fun g => by rw [if_pos g] at h; exact h⟩
theorem X_rootAt {d : Nat} {σ : Sto} {K : Option Nat → Sto → Prop} {T : Nat} {i : Int32} {l : List Nat} (hTr : Tr σ T l) (h : ∀ σ', scS l T σ σ' → Tr σ' T l → SET σ' l → K (atL (roX σ' l) i l) σ') : CR (d + 2) 39 [aR (some T), aI i] σ K := by
  refine CR_of ?_
  show Ev (d + 2, 0, 0) 39 0 [aR (some T), aI i, aU, aU] [] σ _
  simp only [z10, z00, not_true_eq_false, not_false_eq_true, false_implies, true_implies, implies_true, nI_1, Int32.add_zero, true_or, or_true, true_and, and_true, eI_eq, eL_eq, eR_eq, eV_eq, lg_cmp_ge, lg_cmp_le, lg_cmp_gt, lg_cmp_lt, lg_cmp_eq, v_39_0, v_39_1, hTr.1]
  refine X_settle hTr (fun σ' hs hTr' hS => ?_)
  simp only [z10, z00, not_true_eq_false, not_false_eq_true, false_implies, true_implies, implies_true, nI_1, Int32.add_zero, true_or, or_true, true_and, and_true, eI_eq, eL_eq, eR_eq, eV_eq, lg_cmp_ge, lg_cmp_le, lg_cmp_gt, lg_cmp_lt, lg_cmp_eq, v_39_4, v_39_5, v_39_6, v_39_7, v_39_10, hTr'.1, hTr'.2.2.1]
  exact X_rootAt_loop (d := d + 1) (K := K) (T := T) hS l i hTr'.2.2.2.1 (fun _ q => q) (h σ' hs hTr' hS)
