/-! the reference: agreement, bound, skew, what is tried -/
theorem ix7 (x : Nat) : (7 : Int32) * nI x = nI (7 * x) := by rw [show (7 : Int32) = nI 7 from rfl, pk_mul]
theorem k61 (x : Nat) : 6 * x + x = 7 * x := by omega
/-- whether a service's own sum isn't below 0 -/
def nnB (o : Nat → Option Int64) (x : Nat) : Bool := match o (7 * x) with
  | none => true
  | some v => decide (0 ≤ v)
def agB (o : Nat → Option Int64) : Bool := itr (fun x b => b && nnB o x) 0 6 true
theorem M_agree_loop {b : B3} {σ : Sto} {K : Int32 → Sto → Prop} {S : Nat} {f : Nat → Option Int64} (hM : MB σ S) (hF : RpB σ 82 84 f) : ∀ (n x : Nat) (g : Bool), x + n = 6 → K (bI (itr (fun x b => b && nnB f x) x n g)) σ → Ev b 130 8 [aR (some 68), aI (bI g), aI (nI x)] [] σ (eI K) := by
  intro n
  induction n with
  | zero =>
    intro x g hx h
    have hx' : x = 6 := by omega
    subst hx'
    have hle : (6 : Int32) ≤ nI 6 := by decide
    rw [v_130_8]
    simp only [z10, z00, not_true_eq_false, not_false_eq_true, false_implies, true_implies, implies_true, nI_1, Int32.add_zero, true_or, or_true, true_and, and_true, eI_eq, eL_eq, eR_eq, eV_eq, lg_cmp_ge, lg_cmp_le, lg_cmp_gt, lg_cmp_lt, lg_cmp_eq, v_130_9, v_130_11, v_130_14, v_130_15, v_130_18, v_130_19, v_130_22, v_130_24, v_130_25, v_130_26, v_130_27, v_130_30, v_130_31, v_130_34, v_130_36, v_130_37, v_130_38, v_130_39, v_130_40, v_130_41, v_130_44, v_130_45, v_130_48, v_130_49, v_130_50, v_130_53, v_130_56, v_130_57, hle]
    refine ⟨?_, h⟩
    cases g
    · exact Or.inl (Eq.refl _)
    · exact Or.inr (Eq.refl _)
  | succ n ih =>
    intro x g hx h
    have hle : ¬ (6 : Int32) ≤ nI x := nI_ge (b := 6) (a := x) (by omega) (by omega)
    have hk : 7 * x < 36 := by omega
    have hc : (nI (7 * x)).toNatClampNeg = 7 * x := nI_clamp (by omega)
    have e3 : itr (fun x b => b && nnB f x) x (n + 1) g = itr (fun x b => b && nnB f x) (x + 1) n (g && nnB f x) := Eq.refl _
    rw [e3] at h
    obtain ⟨r1, r2⟩ := hF _ hk
    rw [v_130_8]
    simp only [z10, z00, not_true_eq_false, not_false_eq_true, false_implies, true_implies, implies_true, nI_1, Int32.add_zero, true_or, or_true, true_and, and_true, eI_eq, eL_eq, eR_eq, eV_eq, lg_cmp_ge, lg_cmp_le, lg_cmp_gt, lg_cmp_lt, lg_cmp_eq, v_130_9, v_130_11, v_130_14, v_130_15, v_130_18, v_130_19, v_130_22, v_130_24, v_130_25, v_130_26, v_130_27, v_130_30, v_130_31, v_130_34, v_130_36, v_130_37, v_130_38, v_130_39, v_130_40, v_130_41, v_130_44, v_130_45, v_130_48, v_130_49, v_130_50, v_130_53, v_130_56, v_130_57, hle, ix7, hM.o, hM.r20, hM.r22, hM.a82 (k := _) hk, hM.a84 (k := _) hk, hc]
    cases g with
    | false =>
      simp only [bI, Bool.false_eq_true, if_false, z10, z00, not_true_eq_false, not_false_eq_true, false_implies, true_implies, implies_true, true_and, and_true, true_or, or_true, false_and, and_false, false_or, or_false]
      exact ih (x + 1) false (by omega) (by simpa using h)
    | true =>
      simp only [bI, if_true, z10, z00, not_true_eq_false, not_false_eq_true, false_implies, true_implies, implies_true, true_and, and_true, true_or, or_true, false_and, and_false, false_or, or_false]
      refine ⟨fun g => ?_, fun g => ⟨fun g2 => ?_, fun g2 => ?_⟩⟩
      · have e : nnB f x = true := by unfold nnB; rw [← r1]; unfold oB; rw [if_pos g]
        exact ih (x + 1) true (by omega) (by simpa [e] using h)
      · have e : nnB f x = false := by unfold nnB; rw [← r1]; unfold oB; rw [if_neg g]; simpa using g2
        exact ih (x + 1) false (by omega) (by simpa [e] using h)
      · have e : nnB f x = true := by unfold nnB; rw [← r1]; unfold oB; rw [if_neg g]; simpa using g2
        exact ih (x + 1) true (by omega) (by simpa [e] using h)
theorem M_agree {d : Nat} {σ : Sto} {K : Int32 → Sto → Prop} {S : Nat} (hM : MB σ S) (hV : ∀ k, k < S → okV (rwM σ k)) (h : ∀ σ2, sc4 σ σ2 → RpB σ2 81 83 (bdA σ S) → RpB σ2 82 84 (fwA (bdA σ S)) → K (bI (agB (fwA (bdA σ S)))) σ2) : CI (d + 4) 130 [aR (some 68)] σ K := by
  refine CI_of ?_
  show Ev (d + 4, 0, 0) 130 0 [aR (some 68), aU, aU] [] σ _
  simp only [z10, z00, not_true_eq_false, not_false_eq_true, false_implies, true_implies, implies_true, nI_1, Int32.add_zero, true_or, or_true, true_and, and_true, eI_eq, eL_eq, eR_eq, eV_eq, lg_cmp_ge, lg_cmp_le, lg_cmp_gt, lg_cmp_lt, lg_cmp_eq, v_130_0, v_130_1, v_130_4, v_130_5, v_130_6, v_130_7, v_130_9, v_130_11, v_130_14, v_130_15, v_130_18, v_130_19, v_130_22, v_130_24, v_130_25, v_130_26, v_130_27, v_130_30, v_130_31, v_130_34, v_130_36, v_130_37, v_130_38, v_130_39, v_130_40, v_130_41, v_130_44, v_130_45, v_130_48, v_130_49, v_130_50, v_130_53, v_130_56, v_130_57, hM.o]
  refine M_bounds hM hV (fun σ2 q1 q2 q3 => ?_)
  have := M_agree_loop (b := (d + 4, 0, 0)) (K := K) (q1.mb hM) q3 6 0 true (by omega) (h σ2 q1 q2 q3)
  simpa only [nI_0, bI, if_true] using this
def oL (o : Option Int64) : Int64 := match o with
  | none => -9223372036854775808
  | some v => v
theorem M_bound {d : Nat} {σ : Sto} {x y : Int32} {K : Int64 → Sto → Prop} {S : Nat} (hM : MB σ S) (hV : ∀ k, k < S → okV (rwM σ k)) (h0 : ((x < 0 ∨ 6 ≤ x) ∨ (y < 0 ∨ 6 ≤ y)) → K (-9223372036854775808) σ) (h : ∀ a b, a < 6 → b < 6 → x = nI a → y = nI b → ∀ σ2, sc4 σ σ2 → K (oL (bdA σ S (6 * a + b))) σ2) : CL (d + 4) 131 [aR (some 68), aI x, aI y] σ K := by
  refine CL_of ?_
  show Ev (d + 4, 0, 0) 131 0 [aR (some 68), aI x, aI y] [] σ _
  simp only [z10, z00, not_true_eq_false, not_false_eq_true, false_implies, true_implies, implies_true, nI_1, Int32.add_zero, true_or, or_true, true_and, and_true, eI_eq, eL_eq, eR_eq, eV_eq, lg_cmp_ge, lg_cmp_le, lg_cmp_gt, lg_cmp_lt, lg_cmp_eq, v_131_0, v_131_1, v_131_2, v_131_5, v_131_8, v_131_9, v_131_10, v_131_13, v_131_16, v_131_19, v_131_20, v_131_21, v_131_24, v_131_25, v_131_28, v_131_30, v_131_31, v_131_32, v_131_33, v_131_34, v_131_35, v_131_38, v_131_39, v_131_42, v_131_44, v_131_45, v_131_46, v_131_47, v_131_48, v_131_49, v_131_52, v_131_55, hM.o]
  refine M_isService (fun c => ?_) (fun c1 c2 => ?_)
  · simp only [z10, z00, not_true_eq_false, not_false_eq_true, false_implies, true_implies, implies_true, true_and, and_true, true_or, or_true, false_and, and_false, false_or, or_false]
    exact h0 (Or.inl c)
  · simp only [z10, z00, not_true_eq_false, not_false_eq_true, false_implies, true_implies, implies_true, true_and, and_true, true_or, or_true, false_and, and_false, false_or, or_false, hM.o]
    refine M_isService (fun c => ?_) (fun c3 c4 => ?_)
    · simp only [z10, z00, not_true_eq_false, not_false_eq_true, false_implies, true_implies, implies_true, true_and, and_true, true_or, or_true, false_and, and_false, false_or, or_false]
      exact h0 (Or.inr c)
    · obtain ⟨a, ha, ea⟩ := ix_of (n := 6) (by decide) c1 c2
      obtain ⟨b, hb, eb⟩ := ix_of (n := 6) (by decide) c3 c4
      have hk : 6 * a + b < 36 := by omega
      have hc : (nI (6 * a + b)).toNatClampNeg = 6 * a + b := nI_clamp (by omega)
      have h' := h a b ha hb ea eb
      subst ea
      subst eb
      simp only [z10, z00, not_true_eq_false, not_false_eq_true, false_implies, true_implies, implies_true, true_and, and_true, true_or, or_true, false_and, and_false, false_or, or_false, hM.o]
      refine M_bounds hM hV (fun σ2 q1 q2 q3 => ?_)
      have hM2 := q1.mb hM
      obtain ⟨r1, r2⟩ := q2 _ hk
      have h' := h' σ2 q1
      simp only [z10, z00, not_true_eq_false, not_false_eq_true, false_implies, true_implies, implies_true, nI_1, Int32.add_zero, true_or, or_true, true_and, and_true, eI_eq, eL_eq, eR_eq, eV_eq, lg_cmp_ge, lg_cmp_le, lg_cmp_gt, lg_cmp_lt, lg_cmp_eq, v_131_0, v_131_1, v_131_2, v_131_5, v_131_8, v_131_9, v_131_10, v_131_13, v_131_16, v_131_19, v_131_20, v_131_21, v_131_24, v_131_25, v_131_28, v_131_30, v_131_31, v_131_32, v_131_33, v_131_34, v_131_35, v_131_38, v_131_39, v_131_42, v_131_44, v_131_45, v_131_46, v_131_47, v_131_48, v_131_49, v_131_52, v_131_55, ix6, hM2.o, hM2.r19, hM2.r21, hM2.a81 (k := _) hk, hM2.a83 (k := _) hk, hc]
      rw [← r1] at h'
      unfold oB at h'
      exact ⟨fun g => by simpa [g, oL] using h', fun g => by simpa [g, oL] using h'⟩
/-- skew's answer -/
def skA (f : Nat → Option Int64) (a b : Nat) (w : Int32) : Int64 := if agB f then (if w = 0 then (match f (6 * b + a) with
    | none => -9223372036854775808
    | some v => -v) else oL (f (6 * a + b))) else -9223372036854775808
theorem M_skew {d : Nat} {σ : Sto} {x y w : Int32} {K : Int64 → Sto → Prop} {S : Nat} (hM : MB σ S) (hV : ∀ k, k < S → okV (rwM σ k)) (h0 : ((x < 0 ∨ 6 ≤ x) ∨ (y < 0 ∨ 6 ≤ y) ∨ x = y ∨ w < 0 ∨ 1 < w) → K (-9223372036854775808) σ) (h : ∀ a b, a < 6 → b < 6 → x = nI a → y = nI b → ¬ x = y → ¬ w < 0 → ¬ 1 < w → ∀ σ2, sc4 σ σ2 → K (skA (fwA (bdA σ S)) a b w) σ2) : CL (d + 5) 132 [aR (some 68), aI x, aI y, aI w] σ K := by
  refine CL_of ?_
  show Ev (d + 5, 0, 0) 132 0 [aR (some 68), aI x, aI y, aI w, aU] [] σ _
  simp only [z10, z00, not_true_eq_false, not_false_eq_true, false_implies, true_implies, implies_true, nI_1, Int32.add_zero, true_or, or_true, true_and, and_true, eI_eq, eL_eq, eR_eq, eV_eq, lg_cmp_ge, lg_cmp_le, lg_cmp_gt, lg_cmp_lt, lg_cmp_eq, v_132_0, v_132_1, v_132_2, v_132_5, v_132_8, v_132_9, v_132_10, v_132_13, v_132_16, v_132_17, v_132_18, v_132_21, v_132_22, v_132_25, v_132_26, v_132_27, v_132_30, v_132_31, v_132_34, v_132_37, v_132_40, v_132_41, v_132_42, v_132_45, v_132_47, v_132_48, v_132_49, v_132_50, v_132_51, v_132_54, v_132_56, v_132_57, v_132_58, v_132_59, v_132_60, v_132_62, v_132_63, v_132_66, v_132_68, v_132_69, v_132_72, v_132_75, v_132_76, v_132_77, v_132_80, v_132_81, v_132_84, v_132_86, v_132_87, v_132_88, v_132_91, v_132_92, v_132_95, v_132_97, v_132_98, hM.o]
  refine M_isService (fun c => ?_) (fun c1 c2 => ?_)
  · simp only [z10, z00, not_true_eq_false, not_false_eq_true, false_implies, true_implies, implies_true, true_and, and_true, true_or, or_true, false_and, and_false, false_or, or_false]
    exact h0 (Or.inl c)
  · simp only [z10, z00, not_true_eq_false, not_false_eq_true, false_implies, true_implies, implies_true, true_and, and_true, true_or, or_true, false_and, and_false, false_or, or_false, hM.o]
    refine M_isService (fun c => ?_) (fun c3 c4 => ?_)
    · simp only [z10, z00, not_true_eq_false, not_false_eq_true, false_implies, true_implies, implies_true, true_and, and_true, true_or, or_true, false_and, and_false, false_or, or_false]
      exact h0 (Or.inr (Or.inl c))
    · simp only [z10, z00, not_true_eq_false, not_false_eq_true, false_implies, true_implies, implies_true, true_and, and_true, true_or, or_true, false_and, and_false, false_or, or_false, hM.o]
      refine ⟨fun g => h0 (Or.inr (Or.inr (Or.inl g))), fun g => ⟨fun g2 => h0 (Or.inr (Or.inr (Or.inr (Or.inl g2)))), fun g2 => ⟨fun g3 => h0 (Or.inr (Or.inr (Or.inr (Or.inr g3)))), fun g3 => ?_⟩⟩⟩
      obtain ⟨a, ha, ea⟩ := ix_of (n := 6) (by decide) c1 c2
      obtain ⟨b, hb, eb⟩ := ix_of (n := 6) (by decide) c3 c4
      have hk : 6 * a + b < 36 := by omega
      have hc : (nI (6 * a + b)).toNatClampNeg = 6 * a + b := nI_clamp (by omega)
      have hk' : 6 * b + a < 36 := by omega
      have hc' : (nI (6 * b + a)).toNatClampNeg = 6 * b + a := nI_clamp (by omega)
      have h' := h a b ha hb ea eb g g2 g3
      subst ea
      subst eb
      refine M_agree hM hV (fun σ2 q1 q2 q3 => ?_)
      have hM2 := q1.mb hM
      have h' := h' σ2 q1
      unfold skA at h'
      cases hag : agB (fwA (bdA σ S)) with
      | false =>
        simp only [bI, Bool.false_eq_true, if_false, z10, z00, not_true_eq_false, not_false_eq_true, false_implies, true_implies, implies_true, true_and, and_true, true_or, or_true, false_and, and_false, false_or, or_false]
        simpa [hag] using h'
      | true =>
        simp only [bI, if_true, z10, z00, not_true_eq_false, not_false_eq_true, false_implies, true_implies, implies_true, true_and, and_true, true_or, or_true, false_and, and_false, false_or, or_false]
        simp only [hag, if_true] at h'
        obtain ⟨r1, -⟩ := q3 _ hk
        obtain ⟨r1', -⟩ := q3 _ hk'
        rw [← r1, ← r1'] at h'
        unfold oB at h'
        refine ⟨fun g4 => ?_, fun g4 => ?_⟩
        · simp only [z10, z00, not_true_eq_false, not_false_eq_true, false_implies, true_implies, implies_true, nI_1, Int32.add_zero, true_or, or_true, true_and, and_true, eI_eq, eL_eq, eR_eq, eV_eq, lg_cmp_ge, lg_cmp_le, lg_cmp_gt, lg_cmp_lt, lg_cmp_eq, v_132_0, v_132_1, v_132_2, v_132_5, v_132_8, v_132_9, v_132_10, v_132_13, v_132_16, v_132_17, v_132_18, v_132_21, v_132_22, v_132_25, v_132_26, v_132_27, v_132_30, v_132_31, v_132_34, v_132_37, v_132_40, v_132_41, v_132_42, v_132_45, v_132_47, v_132_48, v_132_49, v_132_50, v_132_51, v_132_54, v_132_56, v_132_57, v_132_58, v_132_59, v_132_60, v_132_62, v_132_63, v_132_66, v_132_68, v_132_69, v_132_72, v_132_75, v_132_76, v_132_77, v_132_80, v_132_81, v_132_84, v_132_86, v_132_87, v_132_88, v_132_91, v_132_92, v_132_95, v_132_97, v_132_98, ix6, hM2.o, hM2.r20, hM2.r22, hM2.a82 (k := _) hk, hM2.a84 (k := _) hk, hc, g4]
          exact ⟨fun g5 => by simpa [g4, g5, oL] using h', fun g5 => by simpa [g4, g5, oL] using h'⟩
        · simp only [z10, z00, not_true_eq_false, not_false_eq_true, false_implies, true_implies, implies_true, nI_1, Int32.add_zero, true_or, or_true, true_and, and_true, eI_eq, eL_eq, eR_eq, eV_eq, lg_cmp_ge, lg_cmp_le, lg_cmp_gt, lg_cmp_lt, lg_cmp_eq, v_132_0, v_132_1, v_132_2, v_132_5, v_132_8, v_132_9, v_132_10, v_132_13, v_132_16, v_132_17, v_132_18, v_132_21, v_132_22, v_132_25, v_132_26, v_132_27, v_132_30, v_132_31, v_132_34, v_132_37, v_132_40, v_132_41, v_132_42, v_132_45, v_132_47, v_132_48, v_132_49, v_132_50, v_132_51, v_132_54, v_132_56, v_132_57, v_132_58, v_132_59, v_132_60, v_132_62, v_132_63, v_132_66, v_132_68, v_132_69, v_132_72, v_132_75, v_132_76, v_132_77, v_132_80, v_132_81, v_132_84, v_132_86, v_132_87, v_132_88, v_132_91, v_132_92, v_132_95, v_132_97, v_132_98, ix6, hM2.o, hM2.r20, hM2.r22, hM2.a82 (k := _) hk', hM2.a84 (k := _) hk', hc', g4]
          exact ⟨fun g5 => by simpa [g4, g5] using h', fun g5 => by simpa [g4, g5] using h'⟩
theorem M_moved {d : Nat} {σ : Sto} {x : Int32} {K : Int64 → Sto → Prop} {S : Nat} (hM : MB σ S) (h0 : (x < 0 ∨ 6 ≤ x) → K (-9223372036854775808) σ) (h : ∀ a, a < 6 → x = nI a → K (gl σ 86 a) σ) : CL (d + 1) 136 [aR (some 68), aI x] σ K := by
  refine CL_of ?_
  show Ev (d + 1, 0, 0) 136 0 [aR (some 68), aI x] [] σ _
  simp only [z10, z00, not_true_eq_false, not_false_eq_true, false_implies, true_implies, implies_true, nI_1, Int32.add_zero, true_or, or_true, true_and, and_true, eI_eq, eL_eq, eR_eq, eV_eq, lg_cmp_ge, lg_cmp_le, lg_cmp_gt, lg_cmp_lt, lg_cmp_eq, v_136_0, v_136_1, v_136_2, v_136_5, v_136_8, v_136_9, v_136_12, v_136_13, v_136_14, v_136_17, v_136_20, hM.o]
  refine M_isService (fun c => ?_) (fun c1 c2 => ?_)
  · simp only [z10, z00, not_true_eq_false, not_false_eq_true, false_implies, true_implies, implies_true, true_and, and_true, true_or, or_true, false_and, and_false, false_or, or_false]
    exact h0 c
  · obtain ⟨a, ha, ea⟩ := ix_of (n := 6) (by decide) c1 c2
    have hc : (nI a).toNatClampNeg = a := nI_clamp (by omega)
    have h' := h a ha ea
    subst ea
    simp only [z10, z00, not_true_eq_false, not_false_eq_true, false_implies, true_implies, implies_true, nI_1, Int32.add_zero, true_or, or_true, true_and, and_true, eI_eq, eL_eq, eR_eq, eV_eq, lg_cmp_ge, lg_cmp_le, lg_cmp_gt, lg_cmp_lt, lg_cmp_eq, v_136_0, v_136_1, v_136_2, v_136_5, v_136_8, v_136_9, v_136_12, v_136_13, v_136_14, v_136_17, v_136_20, hM.o, hM.r24, hM.a86 (k := a) ha, hc, z10, z00, not_true_eq_false, not_false_eq_true, false_implies, true_implies, implies_true, true_and, and_true, true_or, or_true, false_and, and_false, false_or, or_false]
    exact h'
theorem M_tries_loop {b : B3} {σ : Sto} {K : Int32 → Sto → Prop} {S : Nat} (hM : MB σ S) : ∀ (n k c : Nat), k + n = 6 → K (nI (c + cnt (fun k => decide (¬ gi σ 88 k = 0)) k n)) σ → Ev b 137 4 [aR (some 68), aI (nI c), aI (nI k)] [] σ (eI K) := by
  intro n
  induction n with
  | zero =>
    intro k c hk h
    have hk' : k = 6 := by omega
    subst hk'
    have hle : (6 : Int32) ≤ nI 6 := by decide
    rw [v_137_4]
    simp only [z10, z00, not_true_eq_false, not_false_eq_true, false_implies, true_implies, implies_true, nI_1, Int32.add_zero, true_or, or_true, true_and, and_true, eI_eq, eL_eq, eR_eq, eV_eq, lg_cmp_ge, lg_cmp_le, lg_cmp_gt, lg_cmp_lt, lg_cmp_eq, v_137_0, v_137_1, v_137_2, v_137_3, v_137_5, v_137_7, v_137_10, v_137_11, v_137_12, v_137_15, v_137_16, v_137_17, v_137_20, v_137_21, v_137_24, v_137_25, v_137_26, v_137_27, v_137_30, v_137_33, v_137_34, hle]
    exact h
  | succ n ih =>
    intro k c hk h
    have hle : ¬ (6 : Int32) ≤ nI k := nI_ge (b := 6) (a := k) (by omega) (by omega)
    have hc : (nI k).toNatClampNeg = k := nI_clamp (by omega)
    rw [v_137_4]
    simp only [z10, z00, not_true_eq_false, not_false_eq_true, false_implies, true_implies, implies_true, nI_1, Int32.add_zero, true_or, or_true, true_and, and_true, eI_eq, eL_eq, eR_eq, eV_eq, lg_cmp_ge, lg_cmp_le, lg_cmp_gt, lg_cmp_lt, lg_cmp_eq, v_137_0, v_137_1, v_137_2, v_137_3, v_137_5, v_137_7, v_137_10, v_137_11, v_137_12, v_137_15, v_137_16, v_137_17, v_137_20, v_137_21, v_137_24, v_137_25, v_137_26, v_137_27, v_137_30, v_137_33, v_137_34, hle, hM.o, hM.r26, hM.a88 (k := k) (by omega), hc]
    simp only [cnt] at h
    refine ⟨fun g => ih (k + 1) c (by omega) (by simpa [g] using h), fun g => ih (k + 1) (c + 1) (by omega) (by simpa [g, Nat.add_assoc] using h)⟩
theorem M_tries {d : Nat} {σ : Sto} {K : Int32 → Sto → Prop} {S : Nat} (hM : MB σ S) (h : K (nI (cnt (fun k => decide (¬ gi σ 88 k = 0)) 0 6)) σ) : CI d 137 [aR (some 68)] σ K := by
  refine CI_of ?_
  show Ev (d, 0, 0) 137 0 [aR (some 68), aU, aU] [] σ _
  simp only [z10, z00, not_true_eq_false, not_false_eq_true, false_implies, true_implies, implies_true, nI_1, Int32.add_zero, true_or, or_true, true_and, and_true, eI_eq, eL_eq, eR_eq, eV_eq, lg_cmp_ge, lg_cmp_le, lg_cmp_gt, lg_cmp_lt, lg_cmp_eq, v_137_0, v_137_1, v_137_2, v_137_3, v_137_5, v_137_7, v_137_10, v_137_11, v_137_12, v_137_15, v_137_16, v_137_17, v_137_20, v_137_21, v_137_24, v_137_25, v_137_26, v_137_27, v_137_30, v_137_33, v_137_34]
  simpa only [nI_0] using M_tries_loop hM 6 0 0 (by omega) (by simpa using h)
theorem M_attempt {d : Nat} {σ : Sto} {x : Int32} {v : Int64} {K : Int32 → Sto → Prop} {S : Nat} (hM : MB σ S) (h0 : (x < 0 ∨ 6 ≤ x) → K (-1) σ) (hB : ¬ (x < 0 ∨ 6 ≤ x) → (v < -10000000000 ∨ 10000000000 < v) → K (-2) σ) (h : ∀ a, a < 6 → x = nI a → ¬ v < -10000000000 → ¬ 10000000000 < v → K (nI (cnt (fun k => decide (¬ gi (si (sl σ 87 a v) 88 a 1) 88 k = 0)) 0 6)) (si (sl σ 87 a v) 88 a 1)) : CI (d + 1) 138 [aR (some 68), aI x, aL v] σ K := by
  refine CI_of ?_
  show Ev (d + 1, 0, 0) 138 0 [aR (some 68), aI x, aL v, aU] [] σ _
  simp only [z10, z00, not_true_eq_false, not_false_eq_true, false_implies, true_implies, implies_true, nI_1, Int32.add_zero, true_or, or_true, true_and, and_true, eI_eq, eL_eq, eR_eq, eV_eq, lg_cmp_ge, lg_cmp_le, lg_cmp_gt, lg_cmp_lt, lg_cmp_eq, v_138_0, v_138_1, v_138_2, v_138_5, v_138_8, v_138_9, v_138_10, v_138_11, v_138_14, v_138_15, v_138_18, v_138_19, v_138_22, v_138_23, v_138_26, v_138_28, v_138_29, v_138_30, v_138_33, v_138_34, v_138_35, v_138_36, v_138_37, v_138_40, v_138_41, v_138_42, v_138_43, v_138_44, v_138_47, hM.o]
  refine M_isService (fun c => ?_) (fun c1 c2 => ?_)
  · simp only [z10, z00, not_true_eq_false, not_false_eq_true, false_implies, true_implies, implies_true, true_and, and_true, true_or, or_true, false_and, and_false, false_or, or_false]
    exact h0 c
  · simp only [z10, z00, not_true_eq_false, not_false_eq_true, false_implies, true_implies, implies_true, true_and, and_true, true_or, or_true, false_and, and_false, false_or, or_false]
    have nb : ¬ (x < 0 ∨ 6 ≤ x) := fun q => q.elim c1 c2
    refine ⟨fun g => hB nb (Or.inl g), fun g => ⟨fun g2 => ?_, fun g2 => hB nb (Or.inr (Int64.not_le.mp g2))⟩⟩
    obtain ⟨a, ha, ea⟩ := ix_of (n := 6) (by decide) c1 c2
    have hc : (nI a).toNatClampNeg = a := nI_clamp (by omega)
    have h' := h a ha ea g (Int64.not_lt.mpr g2)
    subst ea
    simp only [z10, z00, not_true_eq_false, not_false_eq_true, false_implies, true_implies, implies_true, nI_1, Int32.add_zero, true_or, or_true, true_and, and_true, eI_eq, eL_eq, eR_eq, eV_eq, lg_cmp_ge, lg_cmp_le, lg_cmp_gt, lg_cmp_lt, lg_cmp_eq, v_138_0, v_138_1, v_138_2, v_138_5, v_138_8, v_138_9, v_138_10, v_138_11, v_138_14, v_138_15, v_138_18, v_138_19, v_138_22, v_138_23, v_138_26, v_138_28, v_138_29, v_138_30, v_138_33, v_138_34, v_138_35, v_138_36, v_138_37, v_138_40, v_138_41, v_138_42, v_138_43, v_138_44, v_138_47, hM.o, hM.r25, hM.r26, hM.a87 (k := a) ha, hM.a88 (k := a) ha, hc, okO_sl, okO_si, okA_sl, gr_sl_r, z10, z00, not_true_eq_false, not_false_eq_true, false_implies, true_implies, implies_true, true_and, and_true, true_or, or_true, false_and, and_false, false_or, or_false]
    exact M_tries (S := S) hM h'
