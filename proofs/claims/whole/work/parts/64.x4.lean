/-! the class: ways -/
theorem X_placeOf {d : Nat} {σ : Sto} {K : Int32 → Sto → Prop} {x y : Int32} (h : K (x * 8 + y) σ) : CI d 91 [aI x, aI y] σ K := by
  refine CI_of ?_
  show Ev (d, 0, 0) 91 0 [aI x, aI y] [] σ _
  simp only [z10, z00, not_true_eq_false, not_false_eq_true, false_implies, true_implies, implies_true, nI_1, Int32.add_zero, true_or, or_true, true_and, and_true, eI_eq, eL_eq, eR_eq, eV_eq, lg_cmp_ge, lg_cmp_le, lg_cmp_gt, lg_cmp_lt, lg_cmp_eq, v_91_0, v_91_1, v_91_3, v_91_4, v_91_5, v_91_6]
  exact h
theorem X_movedBegin {d : Nat} {σ : Sto} {K : Int64 → Sto → Prop} {w a : Nat} {mv : Nat → Int64} (hW : WB σ w) (hm : ∀ v, v < 6 → gl σ (w + 5) v = mv v) (ha : okO σ a 1) (hv : okV (rwX σ 0 a)) (h : K (beR mv (rwX σ 0 a)) σ) : CL d 55 [aR (some w), aR (some a)] σ K := by
  obtain ⟨v, hv6, ev⟩ := hv
  have ev' : gi σ a 2 = nI v := ev
  have hc : (nI v).toNatClampNeg = v := nI_clamp (by omega)
  refine CL_of ?_
  show Ev (d, 0, 0) 55 0 [aR (some w), aR (some a)] [] σ _
  simp only [z10, z00, not_true_eq_false, not_false_eq_true, false_implies, true_implies, implies_true, nI_1, Int32.add_zero, true_or, or_true, true_and, and_true, eI_eq, eL_eq, eR_eq, eV_eq, lg_cmp_ge, lg_cmp_le, lg_cmp_gt, lg_cmp_lt, lg_cmp_eq, v_55_0, v_55_1, v_55_4, v_55_5, v_55_8, v_55_9, v_55_12, v_55_13, v_55_14, ha, hW.1, hW.2.2.2.2.2.1, ev', hW.2.2.2.2.2.2.2 v hv6, hc, hm v hv6]
  unfold beR at h
  rw [ev, hc] at h
  exact h
theorem X_movedEnd {d : Nat} {σ : Sto} {K : Int64 → Sto → Prop} {w a : Nat} {mv : Nat → Int64} (hW : WB σ w) (hm : ∀ v, v < 6 → gl σ (w + 5) v = mv v) (ha : okO σ a 1) (hv : okV (rwX σ 0 a)) (h : K (enR mv (rwX σ 0 a)) σ) : CL d 56 [aR (some w), aR (some a)] σ K := by
  obtain ⟨v, hv6, ev⟩ := hv
  have ev' : gi σ a 2 = nI v := ev
  have hc : (nI v).toNatClampNeg = v := nI_clamp (by omega)
  refine CL_of ?_
  show Ev (d, 0, 0) 56 0 [aR (some w), aR (some a)] [] σ _
  simp only [z10, z00, not_true_eq_false, not_false_eq_true, false_implies, true_implies, implies_true, nI_1, Int32.add_zero, true_or, or_true, true_and, and_true, eI_eq, eL_eq, eR_eq, eV_eq, lg_cmp_ge, lg_cmp_le, lg_cmp_gt, lg_cmp_lt, lg_cmp_eq, v_56_0, v_56_1, v_56_4, v_56_5, v_56_8, v_56_9, v_56_12, v_56_13, v_56_14, ha, hW.1, hW.2.2.2.2.2.1, ev', hW.2.2.2.2.2.2.2 v hv6, hc, hm v hv6]
  unfold enR at h
  rw [ev, hc] at h
  exact h
theorem enR_rng {mv : Nat → Int64} {r : Rw} (hm : mvB mv) (hr : okR r) : -1000000000000000 ≤ (enR mv r).toInt ∧ (enR mv r).toInt ≤ 1000001000000000 := by
  obtain ⟨-, -, -, ⟨v, hv, ev⟩, -, -, -, ⟨b, e, hb, he, e1, e2⟩⟩ := hr
  unfold enR
  have hm := hm v hv
  rw [ev, nI_clamp (by omega), e2]
  have t2 := lN_toInt (n := e) (by omega)
  rw [fb_addL (by omega) (by omega)]
  omega
theorem X_isLater {d : Nat} {σ : Sto} {K : Int32 → Sto → Prop} {w a b : Nat} {mv : Nat → Int64} (hW : WB σ w) (hm : ∀ v, v < 6 → gl σ (w + 5) v = mv v) (hB : mvB mv) (ha : okO σ a 1) (hb : okO σ b 1) (hra : ∃ t, okR (rwX σ t a)) (hrb : ∃ t, okR (rwX σ t b)) (h : K (bI (btR mv (rwX σ 0 a) (rwX σ 0 b))) σ) : CI (d + 1) 54 [aR (some w), aR (some a), aR (some b)] σ K := by
  obtain ⟨ta, hra⟩ := hra
  obtain ⟨tb, hrb⟩ := hrb
  have va : okV (rwX σ 0 a) := hra.v
  have vb : okV (rwX σ 0 b) := hrb.v
  have ea : enR mv (rwX σ ta a) = enR mv (rwX σ 0 a) := rfl
  have eb : enR mv (rwX σ tb b) = enR mv (rwX σ 0 b) := rfl
  have ra := enR_rng hB hra
  have rb := enR_rng hB hrb
  rw [ea] at ra
  rw [eb] at rb
  refine CI_of ?_
  show Ev (d + 1, 0, 0) 54 0 [aR (some w), aR (some a), aR (some b), aU, aU] [] σ _
  simp only [z10, z00, not_true_eq_false, not_false_eq_true, false_implies, true_implies, implies_true, nI_1, Int32.add_zero, true_or, or_true, true_and, and_true, eI_eq, eL_eq, eR_eq, eV_eq, lg_cmp_ge, lg_cmp_le, lg_cmp_gt, lg_cmp_lt, lg_cmp_eq, v_54_0, v_54_1, v_54_2, hW.1]
  refine X_movedEnd hW hm ha va ?_
  simp only [z10, z00, not_true_eq_false, not_false_eq_true, false_implies, true_implies, implies_true, nI_1, Int32.add_zero, true_or, or_true, true_and, and_true, eI_eq, eL_eq, eR_eq, eV_eq, lg_cmp_ge, lg_cmp_le, lg_cmp_gt, lg_cmp_lt, lg_cmp_eq, v_54_5, v_54_6, v_54_7, hW.1]
  refine X_movedEnd hW hm hb vb ?_
  have eN1 : gi σ a 0 = rN (rwX σ 0 a) := rfl
  have eN2 : gi σ b 0 = rN (rwX σ 0 b) := rfl
  simp only [z10, z00, not_true_eq_false, not_false_eq_true, false_implies, true_implies, implies_true, nI_1, Int32.add_zero, true_or, or_true, true_and, and_true, eI_eq, eL_eq, eR_eq, eV_eq, lg_cmp_ge, lg_cmp_le, lg_cmp_gt, lg_cmp_lt, lg_cmp_eq, v_54_10, v_54_11, v_54_12, v_54_13, v_54_14, v_54_15, v_54_18, v_54_19, v_54_20, v_54_21, v_54_24, v_54_25, v_54_28, v_54_29, v_54_32, v_54_35, v_54_36, v_54_39, v_54_40, ha, hb, eN1, eN2]
  have es : (enR mv (rwX σ 0 a) - enR mv (rwX σ 0 b)).toInt = (enR mv (rwX σ 0 a)).toInt - (enR mv (rwX σ 0 b)).toInt := fb_subL (by omega) (by omega)
  have z0 : (0 : Int64).toInt = 0 := by decide
  have i1 : (0 : Int64) < enR mv (rwX σ 0 a) - enR mv (rwX σ 0 b) ↔ enR mv (rwX σ 0 b) < enR mv (rwX σ 0 a) := by
    rw [Int64.lt_iff_toInt_lt, Int64.lt_iff_toInt_lt, es, z0]; omega
  have i2 : enR mv (rwX σ 0 a) - enR mv (rwX σ 0 b) = 0 ↔ enR mv (rwX σ 0 a) = enR mv (rwX σ 0 b) := by
    rw [← Int64.toInt_inj, ← Int64.toInt_inj, es, z0]; omega
  simp only [i1, i2]
  unfold btR at h
  refine ⟨fun g => ?_, fun g => ⟨fun g2 => ?_, fun g2 => ⟨fun g3 => ?_, fun g3 => ?_⟩⟩⟩
  · rw [decide_eq_true (Or.inl g)] at h; exact h
  · rw [decide_eq_false (fun q => q.elim g (fun q => g2 q.1))] at h; exact h
  · rw [decide_eq_false (fun q => q.elim g (fun q => Int32.not_lt.mpr g3 q.2))] at h; exact h
  · rw [decide_eq_true (Or.inr ⟨g2, Int32.not_le.mp g3⟩)] at h; exact h
/-- the best of a list -/
def bsL {α : Type} (p : α → Bool) (bt : α → α → Bool) : List α → Option α → Option α
  | [], b => b
  | a :: l, b => bsL p bt l (if p a then pk2 bt a b else b)
def elX (σ : Sto) (l : List Nat) (mv : Nat → Int64) (x : Int32) (c f : Int64) (a : Nat) : Bool := kiX σ l x a && elR mv c f (rwX σ 0 a)
def btX (σ : Sto) (mv : Nat → Int64) (a b : Nat) : Bool := btR mv (rwX σ 0 a) (rwX σ 0 b)
def nxX (σ : Sto) (l : List Nat) (mv : Nat → Int64) (x : Nat) (c f : Int64) : Option Nat := bsL (elX σ l mv (gi σ x 0) c f) (btX σ mv) l none
theorem X_latestKid_loop {d : Nat} {σ : Sto} {K : Option Nat → Sto → Prop} {w T x : Nat} {mv : Nat → Int64} {c f : Int64} {l : List Nat} (hW : WB σ w) (hm : ∀ v, v < 6 → gl σ (w + 5) v = mv v) (hB : mvB mv) (hS : SET σ l) (hlo : ∀ a, a ∈ l → okO σ a 1) (hR : ∀ a, a ∈ l → ∃ t, okR (rwX σ t a)) (hx : okO σ x 1) : ∀ (m : List Nat) (b : Option Nat), lkt σ m none → (∀ a, a ∈ m → a ∈ l) → (∀ a, b = some a → a ∈ l) → K (bsL (elX σ l mv (gi σ x 0) c f) (btX σ mv) m b) σ → Ev (d + 2, 0, 0) 53 9 [aR (some w), aR (some T), aR (some x), aL c, aU, aL f, aU, aR b, aR m.head?] [] σ (eR K) := by
  intro m
  induction m with
  | nil =>
    intro b hl hm' hb h
    rw [v_53_9]
    simp only [List.head?_nil, z10, z00, not_true_eq_false, not_false_eq_true, false_implies, true_implies, implies_true, nI_1, Int32.add_zero, true_or, or_true, true_and, and_true, eI_eq, eL_eq, eR_eq, eV_eq, lg_cmp_ge, lg_cmp_le, lg_cmp_gt, lg_cmp_lt, lg_cmp_eq, v_53_11, v_53_14, v_53_16, v_53_17, v_53_20, v_53_23, v_53_26, v_53_28, v_53_31, v_53_34, v_53_35, v_53_37, v_53_40, v_53_41, v_53_42, v_53_45, v_53_46, v_53_48, v_53_51, v_53_53, v_53_54, v_53_57, v_53_59, v_53_62, v_53_63, v_53_65, v_53_67, v_53_70, v_53_73, v_53_75, v_53_78, v_53_80, v_53_82, v_53_84, v_53_87, v_53_89, v_53_92, v_53_94]
    exact h
  | cons a m ih =>
    intro b hl hm' hb h
    obtain ⟨h1, h2, h3, h4⟩ := hl
    rw [Option.or_none] at h3
    have hO := okS_of h1 h2
    have hal := hm' a (List.mem_cons_self ..)
    have hml : ∀ b, b ∈ m → b ∈ l := fun b hb => hm' b (List.mem_cons_of_mem _ hb)
    obtain ⟨s1, s2, -⟩ := hS a hal
    obtain ⟨ta, hra⟩ := hR a hal
    have hva : okV (rwX σ 0 a) := hra.v
    rw [bsL] at h
    have skip : elX σ l mv (gi σ x 0) c f a = false → Ev (d + 2, 0, 0) 53 9 [aR (some w), aR (some T), aR (some x), aL c, aU, aL f, aU, aR b, aR m.head?] [] σ (eR K) := fun e => ih b h4 hml hb (by rw [e] at h; exact h)
    rw [v_53_9]
    simp only [List.head?_cons, reduceCtorEq, z10, z00, not_true_eq_false, not_false_eq_true, false_implies, true_implies, implies_true, nI_1, Int32.add_zero, true_or, or_true, true_and, and_true, eI_eq, eL_eq, eR_eq, eV_eq, lg_cmp_ge, lg_cmp_le, lg_cmp_gt, lg_cmp_lt, lg_cmp_eq, v_53_11, v_53_14, v_53_16, v_53_17, v_53_20, hO, hx, z10, z00, not_true_eq_false, not_false_eq_true, false_implies, true_implies, implies_true, true_and, and_true, true_or, or_true, false_and, and_false, false_or, or_false]
    refine X_isKidOf hO ?_
    rw [s1, s2]
    have e : kiX σ l (gi σ x 0) a = decide (¬ roI (uX σ l) a = none ∧ ¬ uX σ l a = none ∧ gi σ a 1 = gi σ x 0) := rfl
    rw [← e]
    cases hk : kiX σ l (gi σ x 0) a with
    | false =>
      simp only [bI, Bool.false_eq_true, if_false, v_53_23, v_53_82, v_53_84, v_53_87, v_53_89, hO, h3, z10, z00, not_true_eq_false, not_false_eq_true, false_implies, true_implies, implies_true, true_and, and_true, true_or, or_true, false_and, and_false, false_or, or_false]
      exact skip (by simp [elX, hk])
    | true =>
      have eL : elX σ l mv (gi σ x 0) c f a = elR mv c f (rwX σ 0 a) := by simp [elX, hk]
      simp only [bI, if_true, v_53_23, v_53_26, v_53_28, hO, z10, z00, not_true_eq_false, not_false_eq_true, false_implies, true_implies, implies_true, true_and, and_true, true_or, or_true, false_and, and_false, false_or, or_false]
      refine X_canBeOnWay hO ?_
      have hbe : gl σ a 6 < gl σ a 7 ↔ ¬ gl σ a 6 = gl σ a 7 := by
        obtain ⟨-, -, -, -, -, -, -, ⟨b', e', hb', he', e1, e2⟩⟩ := hra
        have e1' : gl σ a 6 = lN b' := e1
        have e2' : gl σ a 7 = lN e' := e2
        rw [e1', e2', lN_lt (by omega) (by omega), lN_eq (by omega) (by omega)]
        omega
      have eD : decide (¬ 2 < gi σ a 4 ∧ gl σ a 6 < gl σ a 7) = decide (¬ 2 < rK (rwX σ 0 a) ∧ ¬ rB (rwX σ 0 a) = rE (rwX σ 0 a)) := decide_eq_decide.mpr (and_congr Iff.rfl hbe)
      rw [eD]
      by_cases hc : ¬ 2 < rK (rwX σ 0 a) ∧ ¬ rB (rwX σ 0 a) = rE (rwX σ 0 a)
      · rw [decide_eq_true hc]
        simp only [bI, if_true, z10, z00, not_true_eq_false, not_false_eq_true, false_implies, true_implies, implies_true, nI_1, Int32.add_zero, true_or, or_true, true_and, and_true, eI_eq, eL_eq, eR_eq, eV_eq, lg_cmp_ge, lg_cmp_le, lg_cmp_gt, lg_cmp_lt, lg_cmp_eq, v_53_31, v_53_34, v_53_35, v_53_37, hW.1, z10, z00, not_true_eq_false, not_false_eq_true, false_implies, true_implies, implies_true, true_and, and_true, true_or, or_true, false_and, and_false, false_or, or_false]
        refine X_movedEnd hW hm hO hva ?_
        simp only [z10, z00, not_true_eq_false, not_false_eq_true, false_implies, true_implies, implies_true, nI_1, Int32.add_zero, true_or, or_true, true_and, and_true, eI_eq, eL_eq, eR_eq, eV_eq, lg_cmp_ge, lg_cmp_le, lg_cmp_gt, lg_cmp_lt, lg_cmp_eq, v_53_40, v_53_41, v_53_42, v_53_45, v_53_46, v_53_48, v_53_82, v_53_84, v_53_87, v_53_89, hW.1, hO, h3]
        refine ⟨fun g3 => skip (by rw [eL]; simp [elR, g3]), fun g3 => X_movedEnd hW hm hO hva ?_⟩
        simp only [z10, z00, not_true_eq_false, not_false_eq_true, false_implies, true_implies, implies_true, nI_1, Int32.add_zero, true_or, or_true, true_and, and_true, eI_eq, eL_eq, eR_eq, eV_eq, lg_cmp_ge, lg_cmp_le, lg_cmp_gt, lg_cmp_lt, lg_cmp_eq, v_53_51, v_53_53, v_53_54, v_53_57, v_53_59, v_53_82, v_53_84, v_53_87, v_53_89, hW.1, hO, h3]
        refine ⟨fun g4 => skip ?_, fun g4 => ?_⟩
        · rw [eL]
          unfold elR
          exact decide_eq_false (fun q => Int64.not_lt.mpr g4 q.2.2.2)
        · have eT : elX σ l mv (gi σ x 0) c f a = true := by
            rw [eL]
            exact decide_eq_true ⟨hc.1, hc.2, g3, Int64.not_le.mp g4⟩
          rw [eT, if_pos rfl] at h
          cases hb' : b with
          | none =>
            simp only [z10, z00, not_true_eq_false, not_false_eq_true, false_implies, true_implies, implies_true, nI_1, Int32.add_zero, true_or, or_true, true_and, and_true, eI_eq, eL_eq, eR_eq, eV_eq, lg_cmp_ge, lg_cmp_le, lg_cmp_gt, lg_cmp_lt, lg_cmp_eq, v_53_73, v_53_75, v_53_78, v_53_80, v_53_82, v_53_84, v_53_87, v_53_89, hO, h3, z10, z00, not_true_eq_false, not_false_eq_true, false_implies, true_implies, implies_true, true_and, and_true, true_or, or_true, false_and, and_false, false_or, or_false]
            refine ih (some a) h4 hml (fun q e => by cases e; exact hal) ?_
            rw [hb'] at h
            exact h
          | some j =>
            have hjl := hb j hb'
            simp only [reduceCtorEq, z10, z00, not_true_eq_false, not_false_eq_true, false_implies, true_implies, implies_true, nI_1, Int32.add_zero, true_or, or_true, true_and, and_true, eI_eq, eL_eq, eR_eq, eV_eq, lg_cmp_ge, lg_cmp_le, lg_cmp_gt, lg_cmp_lt, lg_cmp_eq, v_53_62, v_53_63, v_53_65, v_53_67, hW.1, z10, z00, not_true_eq_false, not_false_eq_true, false_implies, true_implies, implies_true, true_and, and_true, true_or, or_true, false_and, and_false, false_or, or_false]
            refine X_isLater hW hm hB hO (hlo j hjl) ⟨ta, hra⟩ (hR j hjl) ?_
            rw [hb'] at h
            unfold pk2 at h
            have eb : btX σ mv a j = btR mv (rwX σ 0 a) (rwX σ 0 j) := rfl
            rw [← eb]
            cases hbt : btX σ mv a j with
            | false =>
              simp only [bI, Bool.false_eq_true, if_false, z10, z00, not_true_eq_false, not_false_eq_true, false_implies, true_implies, implies_true, nI_1, Int32.add_zero, true_or, or_true, true_and, and_true, eI_eq, eL_eq, eR_eq, eV_eq, lg_cmp_ge, lg_cmp_le, lg_cmp_gt, lg_cmp_lt, lg_cmp_eq, v_53_70, v_53_73, v_53_75, v_53_78, v_53_80, v_53_82, v_53_84, v_53_87, v_53_89, hO, h3, z10, z00, not_true_eq_false, not_false_eq_true, false_implies, true_implies, implies_true, true_and, and_true, true_or, or_true, false_and, and_false, false_or, or_false]
              refine ih (some j) h4 hml (fun q e => by cases e; exact hjl) ?_
              simpa [hbt] using h
            | true =>
              simp only [bI, if_true, z10, z00, not_true_eq_false, not_false_eq_true, false_implies, true_implies, implies_true, nI_1, Int32.add_zero, true_or, or_true, true_and, and_true, eI_eq, eL_eq, eR_eq, eV_eq, lg_cmp_ge, lg_cmp_le, lg_cmp_gt, lg_cmp_lt, lg_cmp_eq, v_53_70, v_53_73, v_53_75, v_53_78, v_53_80, v_53_82, v_53_84, v_53_87, v_53_89, hO, h3, z10, z00, not_true_eq_false, not_false_eq_true, false_implies, true_implies, implies_true, true_and, and_true, true_or, or_true, false_and, and_false, false_or, or_false]
              refine ih (some a) h4 hml (fun q e => by cases e; exact hal) ?_
              simpa [hbt] using h
      · rw [decide_eq_false hc]
        simp only [bI, Bool.false_eq_true, if_false, v_53_31, v_53_82, v_53_84, v_53_87, v_53_89, hO, h3, z10, z00, not_true_eq_false, not_false_eq_true, false_implies, true_implies, implies_true, true_and, and_true, true_or, or_true, false_and, and_false, false_or, or_false]
        refine skip ?_
        rw [eL]
        exact decide_eq_false (fun q => hc ⟨q.1, q.2.1⟩)
theorem X_latestKid {d : Nat} {σ : Sto} {K : Option Nat → Sto → Prop} {w T x : Nat} {mv : Nat → Int64} {c f : Int64} {l : List Nat} (hW : WB σ w) (hm : ∀ v, v < 6 → gl σ (w + 5) v = mv v) (hB : mvB mv) (hTr : Tr σ T l) (hS : SET σ l) (hR : ∀ a, a ∈ l → ∃ t, okR (rwX σ t a)) (hx : okO σ x 1) (h : K (nxX σ l mv x c f) σ) : CR (d + 2) 53 [aR (some w), aR (some T), aR (some x), aL c, aL f] σ K := by
  refine CR_of ?_
  show Ev (d + 2, 0, 0) 53 0 [aR (some w), aR (some T), aR (some x), aL c, aU, aL f, aU, aU, aU] [] σ _
  simp only [z10, z00, not_true_eq_false, not_false_eq_true, false_implies, true_implies, implies_true, nI_1, Int32.add_zero, true_or, or_true, true_and, and_true, eI_eq, eL_eq, eR_eq, eV_eq, lg_cmp_ge, lg_cmp_le, lg_cmp_gt, lg_cmp_lt, lg_cmp_eq, v_53_0, v_53_1, v_53_3, v_53_4, v_53_7, hTr.1, hTr.2.2.1]
  exact X_latestKid_loop hW hm hB hS hTr.ok hR hx l none hTr.2.2.2.1 (fun _ q => q) (fun a e => by cases e) h
/-- parts are written into a way -/
def scA (w : Nat) (σ σ' : Sto) : Prop := sn σ' = sn σ ∧ gr σ' = gr σ ∧ (∀ a k, ¬ (a = w ∧ k = 4) → a ≠ w + 1 → a ≠ w + 2 → gi σ' a k = gi σ a k) ∧ (∀ a, a ≠ w + 3 → a ≠ w + 4 → gl σ' a = gl σ a)
theorem scA.rfl (w : Nat) (σ : Sto) : scA w σ σ := ⟨Eq.refl _, Eq.refl _, fun _ _ _ _ _ => Eq.refl _, fun _ _ _ => Eq.refl _⟩
theorem scA.trans {w : Nat} {σ σ' σ'' : Sto} (h1 : scA w σ σ') (h2 : scA w σ' σ'') : scA w σ σ'' := ⟨h2.1.trans h1.1, h2.2.1.trans h1.2.1, fun a k e1 e2 e3 => (h2.2.2.1 a k e1 e2 e3).trans (h1.2.2.1 a k e1 e2 e3), fun a e1 e2 => (h2.2.2.2 a e1 e2).trans (h1.2.2.2 a e1 e2)⟩
theorem okO_of {σ σ' : Sto} (h : sn σ' = sn σ) {a c : Nat} (h1 : okO σ a c) : okO σ' a c := ⟨by rw [h]; exact h1.1, h1.2⟩
theorem okA_of {σ σ' : Sto} (h : sn σ' = sn σ) {a t : Nat} {i : Int32} (h1 : okA σ a t i) : okA σ' a t i := ⟨by rw [h]; exact h1.1, h1.2⟩
theorem WB_of {σ σ' : Sto} {w : Nat} (hw : 0 < w) (h : sn σ' = sn σ) (hg : gr σ' w = gr σ w) (h1 : WB σ w) : WB σ' w := by
  obtain ⟨a1, a2, a3, a4, a5, a6, a7, a8⟩ := h1
  have ox : ∀ a i, 0 < a → okX σ a i → okX σ' a i := fun a i ha q => by
    rcases q with q | q
    · exact absurd q.1 (by omega)
    · exact Or.inr ⟨q.1, okA_of h q.2⟩
  refine ⟨okO_of h a1, by rw [hg]; exact a2, by rw [hg]; exact a3, by rw [hg]; exact a4, by rw [hg]; exact a5, by rw [hg]; exact a6, fun k hk => ?_, fun k hk => okA_of h (a8 k hk)⟩
  obtain ⟨b1, b2, b3, b4, b5, b6⟩ := a7 k hk
  exact ⟨ox _ _ (by omega) b1, okA_of h b2, ox _ _ (by omega) b3, okA_of h b4, okA_of h b5, okA_of h b6⟩
theorem scA.wb {w : Nat} {σ σ' : Sto} (hw : 0 < w) (h : scA w σ σ') (h1 : WB σ w) : WB σ' w := WB_of hw h.1 (by rw [h.2.1]) h1
theorem scA.rw {w : Nat} {σ σ' : Sto} (hw : w + 5 < 103) (h : scA w σ σ') {t : Int32} {a : Nat} (ha : 103 ≤ a) : rwX σ' t a = rwX σ t a := by
  unfold rwX
  rw [h.2.2.1 a 0 (by omega) (by omega) (by omega), h.2.2.1 a 1 (by omega) (by omega) (by omega), h.2.2.1 a 2 (by omega) (by omega) (by omega), h.2.2.1 a 3 (by omega) (by omega) (by omega), h.2.2.1 a 4 (by omega) (by omega) (by omega), h.2.2.1 a 5 (by omega) (by omega) (by omega), h.2.2.2 a (by omega) (by omega)]
theorem scA.u {w : Nat} {σ σ' : Sto} (hw : w + 5 < 103) (h : scA w σ σ') {l : List Nat} (hl : ∀ a, a ∈ l → 103 ≤ a) : uX σ' l = uX σ l := uX_of (fun a ha => ⟨h.2.2.1 a 0 (by omega) (by omega) (by omega), h.2.2.1 a 1 (by omega) (by omega) (by omega)⟩) hl
theorem scA.set {w : Nat} {σ σ' : Sto} (hw : w + 5 < 103) (h : scA w σ σ') {l : List Nat} (hl : ∀ a, a ∈ l → 103 ≤ a) (hS : SET σ l) : SET σ' l := fun a ha => by
  have := hl a ha
  rw [h.u hw hl, h.2.1, h.2.2.1 a 11 (by omega) (by omega) (by omega)]
  exact hS a ha
theorem scA.tr {w : Nat} {σ σ' : Sto} (hw : w + 5 < 103) (h : scA w σ σ') {T : Nat} {l : List Nat} (hT : T < w ∨ w + 5 < T) (hTr : Tr σ T l) : Tr σ' T l := by
  obtain ⟨a1, a2, a3, a4, a5, a6⟩ := hTr
  refine ⟨okO_of h.1 a1, a2, by rw [h.2.1]; exact a3, lkt_of (Nat.le_of_eq h.1.symm) (fun a _ => by rw [h.2.1]) a4, a5, ?_⟩
  rw [h.2.2.1 T 2 (by omega) (by omega) (by omega)]
  exact a6.imp (fun q => q) (fun q => ⟨q.1, h.set hw (fun a ha => (lkt_mem a4 a ha).1) q.2⟩)
theorem bsL_congr {p q : Nat → Bool} {r s : Nat → Nat → Bool} : ∀ {l : List Nat} {b : Option Nat} (P : Nat → Prop), (∀ a, a ∈ l → P a) → (∀ a, b = some a → P a) → (∀ a, P a → p a = q a) → (∀ a c, P a → P c → r a c = s a c) → bsL p r l b = bsL q s l b
  | [], _, _, _, _, _, _ => rfl
  | a :: l, b, P, h1, h2, h3, h4 => by
    have ha := h1 a (List.mem_cons_self ..)
    have hb : pk2 r a b = pk2 s a b := by
      cases b with
      | none => rfl
      | some c => simp only [pk2, h4 a c ha (h2 c rfl)]
    rw [bsL, bsL, h3 a ha, hb]
    refine bsL_congr P (fun c hc => h1 c (List.mem_cons_of_mem _ hc)) (fun c hc => ?_) h3 h4
    split at hc
    · cases b with
      | none => cases hc; exact ha
      | some e =>
        simp only [pk2] at hc
        split at hc
        · cases hc; exact ha
        · exact h2 c hc
    · exact h2 c hc
theorem scA.nx {w : Nat} {σ σ' : Sto} (hw : w + 5 < 103) (h : scA w σ σ') {l : List Nat} (hl : ∀ a, a ∈ l → 103 ≤ a) {mv : Nat → Int64} {x : Nat} (hx : 103 ≤ x) {c f : Int64} : nxX σ' l mv x c f = nxX σ l mv x c f := by
  unfold nxX
  rw [h.2.2.1 x 0 (by omega) (by omega) (by omega)]
  refine bsL_congr (fun a => 103 ≤ a) hl (fun a e => by cases e) (fun a ha => ?_) (fun a b ha hb => ?_)
  · unfold elX kiX
    rw [h.u hw hl, h.rw hw ha, h.2.2.1 a 1 (by omega) (by omega) (by omega)]
  · unfold btX
    rw [h.rw hw ha, h.rw hw hb]
def ptX0 (σ : Sto) (q : Nat × Int64 × Int64) : Pt := (gi σ q.1 0, plR (rwX σ 0 q.1), q.2.1, q.2.2)
theorem X_add {d : Nat} {σ : Sto} {K : Sto → Prop} {w a : Nat} {lo hi : Int64} {ps : List Pt} (hw : w + 5 < 103) (hW : WB σ w) (ha : okO σ a 1) (ha3 : 103 ≤ a) (hR : ∃ t, okR (rwX σ t a)) (hY : WY σ w ps) (hp : ps.length < 60) (h : ∀ σ', scA w σ σ' → WY σ' w (ps ++ [ptX0 σ (a, lo, hi)]) → K σ') : CV (d + 1) 57 [aR (some w), aR (some a), aL lo, aL hi] σ K := by
  obtain ⟨ta, hR⟩ := hR
  obtain ⟨-, -, -, ⟨v, hv, ev⟩, ⟨c, hc, ec⟩, -⟩ := hR
  have ev' : gi σ a 2 = nI v := ev
  have ec' : gi σ a 3 = nI c := ec
  have epl : plR (rwX σ 0 a) = nI (8 * v + c) := plR_of hv hc ev ec
  have hca : (nI ps.length).toNatClampNeg = ps.length := nI_clamp (by omega)
  have c60 : ¬ (60 : Int32) ≤ nI ps.length := nI_ge (b := 60) (a := ps.length) (by omega) (by omega)
  obtain ⟨w1, w2, w3, w4, w5, -, w7, -⟩ := hW
  obtain ⟨b1, b2, b3, b4, b5, b6⟩ := w7 _ hp
  have e1 : ∀ x, gi (si σ (w + 1) ps.length x) w 4 = nI ps.length := fun x => by rw [gi_si_k, if_neg (by omega)]; exact hY.1
  have e2 : ∀ x y, gi (si (si σ (w + 1) ps.length x) (w + 2) ps.length y) w 4 = nI ps.length := fun x y => by rw [gi_si_k, if_neg (by omega)]; exact e1 x
  have e3 : ∀ x, gi (si σ (w + 1) ps.length x) a 2 = nI v := fun x => by rw [gi_si_k, if_neg (by omega)]; exact ev'
  have e4 : ∀ x, gi (si σ (w + 1) ps.length x) a 3 = nI c := fun x => by rw [gi_si_k, if_neg (by omega)]; exact ec'
  have ex : nI v * 8 + nI c = nI (8 * v + c) := by rw [show (8 : Int32) = nI 8 from rfl, pk_mul, nI_add, Nat.mul_comm]
  refine CV_of ?_
  show Ev (d + 1, 0, 0) 57 0 [aR (some w), aR (some a), aL lo, aU, aL hi, aU] [] σ _
  simp only [z10, z00, not_true_eq_false, not_false_eq_true, false_implies, true_implies, implies_true, nI_1, Int32.add_zero, true_or, or_true, true_and, and_true, eI_eq, eL_eq, eR_eq, eV_eq, lg_cmp_ge, lg_cmp_le, lg_cmp_gt, lg_cmp_lt, lg_cmp_eq, v_57_0, v_57_1, v_57_4, v_57_6, v_57_9, v_57_10, v_57_13, v_57_14, v_57_17, v_57_18, v_57_21, v_57_22, v_57_23, v_57_26, v_57_27, v_57_30, v_57_31, v_57_34, v_57_35, v_57_38, w1, w2, w3, hY.1, c60, b2, hca, ha, okO_si, gr_si_r, e1, e3, e4]
  refine X_placeOf ?_
  simp only [z10, z00, not_true_eq_false, not_false_eq_true, false_implies, true_implies, implies_true, nI_1, Int32.add_zero, true_or, or_true, true_and, and_true, eI_eq, eL_eq, eR_eq, eV_eq, lg_cmp_ge, lg_cmp_le, lg_cmp_gt, lg_cmp_lt, lg_cmp_eq, v_57_41, v_57_42, v_57_43, v_57_46, v_57_47, v_57_50, v_57_51, v_57_52, v_57_53, v_57_56, v_57_57, v_57_60, v_57_62, v_57_63, v_57_64, v_57_65, v_57_68, v_57_69, v_57_70, v_57_73, w1, w4, w5, ex, b4, b5, b6, hca, okO_si, okO_sl, okA_si, okA_sl, gr_si_r, gr_sl_r, gi_sl_r, e1, e2, nI_1]
  refine h _ ⟨rfl, rfl, fun b k h1 h2 h3 => ?_, fun b h1 h2 => ?_⟩ ⟨?_, fun i q hq => ?_⟩
  · rw [gi_si_k, if_neg h1, gi_sl_r, gi_sl_r, gi_si_k, if_neg (fun z => h3 z.1), gi_si_k, if_neg (fun z => h2 z.1)]
  · rw [gl_si_r, gl_sl_r, if_neg h2, gl_sl_r, if_neg h1]; rfl
  · rw [gi_si_k, if_pos ⟨rfl, rfl⟩, List.length_append]; rfl
  · have f1 : ∀ x y z, gi (si (sl (sl (si (si σ (w + 1) ps.length x) (w + 2) ps.length y) (w + 3) ps.length lo) (w + 4) ps.length hi) w 4 z) (w + 1) i = if i = ps.length then x else gi σ (w + 1) i := fun x y z => by
      rw [gi_si_k, if_neg (by omega), gi_sl_r, gi_sl_r, gi_si_k, if_neg (by omega), gi_si_k]
      by_cases q : i = ps.length
      · rw [if_pos ⟨rfl, q⟩, if_pos q]
      · rw [if_neg (fun z => q z.2), if_neg q]
    have f2 : ∀ x y z, gi (si (sl (sl (si (si σ (w + 1) ps.length x) (w + 2) ps.length y) (w + 3) ps.length lo) (w + 4) ps.length hi) w 4 z) (w + 2) i = if i = ps.length then y else gi σ (w + 2) i := fun x y z => by
      rw [gi_si_k, if_neg (by omega), gi_sl_r, gi_sl_r, gi_si_k]
      by_cases q : i = ps.length
      · rw [if_pos ⟨rfl, q⟩, if_pos q]
      · rw [if_neg (fun z => q z.2), if_neg q, gi_si_k, if_neg (by omega)]
    have f3 : ∀ x y z, gl (si (sl (sl (si (si σ (w + 1) ps.length x) (w + 2) ps.length y) (w + 3) ps.length lo) (w + 4) ps.length hi) w 4 z) (w + 3) i = if i = ps.length then lo else gl σ (w + 3) i := fun x y z => by
      rw [gl_si_r, gl_sl_k, if_neg (by omega), gl_sl_k]
      by_cases q : i = ps.length
      · rw [if_pos ⟨rfl, q⟩, if_pos q]
      · rw [if_neg (fun z => q z.2), if_neg q]; rfl
    have f4 : ∀ x y z, gl (si (sl (sl (si (si σ (w + 1) ps.length x) (w + 2) ps.length y) (w + 3) ps.length lo) (w + 4) ps.length hi) w 4 z) (w + 4) i = if i = ps.length then hi else gl σ (w + 4) i := fun x y z => by
      rw [gl_si_r, gl_sl_k]
      by_cases q : i = ps.length
      · rw [if_pos ⟨rfl, q⟩, if_pos q]
      · rw [if_neg (fun z => q z.2), if_neg q, gl_sl_k, if_neg (by omega)]; rfl
    rw [f1, f2, f3, f4]
    by_cases hi : i = ps.length
    · subst hi
      rw [List.getElem?_append_right (Nat.le_refl _), Nat.sub_self] at hq
      cases hq
      simp [ptX0, epl]
    · have hlt : i < ps.length := by
        have := (List.getElem?_eq_some_iff.mp hq).1
        simp only [List.length_append, List.length_cons, List.length_nil] at this
        omega
      rw [List.getElem?_append_left hlt] at hq
      obtain ⟨y1, y2, y3, y4⟩ := hY.2 i q hq
      simp [hi, y1, y2, y3, y4, gl_si_r]
