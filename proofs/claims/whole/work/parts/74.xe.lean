/-! the class: all pairs are told -/
def bn9 (o : Nat → Option Int64) : Prop := ∀ j v, o j = some v → -1000000000 ≤ v.toInt ∧ v.toInt ≤ 1000000000
theorem bn9_up {o : Nat → Option Int64} (h : bn9 o) {k : Nat} {v : Int64} (hv : -1000000000 ≤ v.toInt ∧ v.toInt ≤ 1000000000) : bn9 (up1 o k (lowO (o k) v)) := fun j w hw => by
  unfold up1 at hw
  split at hw
  · rcases lowO_le hw with rfl | e
    · exact hv
    · exact h k w e
  · exact h j w hw
theorem bn9_dif {a b : Nat} (ha : a ≤ 1000000000) (hb : b ≤ 1000000000) : -1000000000 ≤ (lN a - lN b).toInt ∧ (lN a - lN b).toInt ≤ 1000000000 := by
  rw [(lN_dif ha hb).2]
  omega
theorem bn9_ln {p r : Rw} (hp : okR p) (hr : okR r) {o : Nat → Option Int64} (h : bn9 o) : bn9 (lnR p r o) := by
  obtain ⟨b, e, h1, h2, h3, h4⟩ := hp.2.2.2.2.2.2.2
  obtain ⟨b', e', h1', h2', h3', h4'⟩ := hr.2.2.2.2.2.2.2
  unfold lnR
  rw [h3, h4, h3', h4']
  split
  · exact bn9_up (bn9_up h (bn9_dif (by omega) (by omega))) (bn9_dif (by omega) (by omega))
  · exact bn9_up h (bn9_dif (by omega) (by omega))
theorem okR_t {σ : Sto} {t u : Int32} {a : Nat} (h : okR (rwX σ t a)) (hu : ∃ k, k < 20 ∧ u = nI k) : okR (rwX σ u a) := ⟨hu, h.2⟩
theorem bn9_tp {σ : Sto} {l : List Nat} (hR : ∀ a, a ∈ l → okR (rwX σ 0 a)) : ∀ (m : List Nat) (o : Nat → Option Int64), (∀ a, a ∈ m → a ∈ l) → bn9 o → bn9 (tpL σ l m o)
  | [], o, _, h => h
  | a :: m, o, hm, h => by
    refine bn9_tp hR m _ (fun b hb => hm b (List.mem_cons_of_mem _ hb)) ?_
    unfold tpS
    cases hu : uX σ l a with
    | none => exact h
    | some p =>
      simp only
      split
      · exact bn9_ln (hR p (uX_mem hu)) (hR a (hm a (List.mem_cons_self ..))) h
      · exact h
theorem bn9_itr {f : Nat → (Nat → Option Int64) → Nat → Option Int64} : ∀ (n k : Nat) (o : Nat → Option Int64), (∀ j o, k ≤ j → j < k + n → bn9 o → bn9 (f j o)) → bn9 o → bn9 (itr f k n o)
  | 0, _, _, _, h => h
  | n + 1, k, o, hf, h => bn9_itr n (k + 1) _ (fun j o h1 h2 => hf j o (by omega) (by omega)) (hf k o (by omega) (by omega) h)
theorem XI.r0 {σ : Sto} {L : Nat → List Nat} (h : XI σ L) {t : Nat} (ht : t < 20) : ∀ a, a ∈ L t → okR (rwX σ 0 a) := fun a ha => okR_t (h.r ht a ha) ⟨0, by decide, rfl⟩
theorem XI.re {σ : Sto} {L : Nat → List Nat} (h : XI σ L) {t : Nat} (ht : t < 20) : ∀ a, a ∈ L t → ∃ u, okR (rwX σ u a) := fun a ha => ⟨_, h.r ht a ha⟩
theorem XI.bn {σ : Sto} {L : Nat → List Nat} (h : XI σ L) : bn9 (bdX σ L) := bn9_itr 20 0 _ (fun j o _ h2 ho => bn9_tp (h.r0 (t := j) (by omega)) _ _ (fun _ q => q) ho) (fun j v hv => by cases hv)
theorem bnd_of {o : Nat → Option Int64} (h : bn9 o) : bnd 0 0 1000000000 o := fun j v _ hv => by
  have := h j v hv
  simp only [btF, Nat.not_lt_zero, if_false]
  omega
theorem itr_snoc {α : Type} {f : Nat → α → α} : ∀ (n k : Nat) (a : α), itr f k (n + 1) a = f (k + n) (itr f k n a)
  | 0, _, _ => rfl
  | n + 1, k, a => by
    rw [itr, itr_snoc n (k + 1), itr, show k + 1 + n = k + (n + 1) by omega]
theorem X_learnPairs_loop {d : Nat} {σ : Sto} {Q : Po} {L : Nat → List Nat} (hI : XI σ L) : ∀ (n t : Nat) (σ1 : Sto), t + n = 20 → XQ σ σ1 → XI σ1 L → gi σ1 7 6 = 0 → RpX σ1 8 (itr (fun t o => tpL σ (L t) (L t) o) 0 t (fun _ => none)) → (∀ σ2, XQ σ σ2 → XI σ2 L → gi σ2 7 6 = 0 → RpX σ2 8 (bdX σ L) → Ev (d + 3, 0, 0) 98 45 [aR (some 1), aI (nI 20)] [] σ2 Q) → Ev (d + 3, 0, 0) 98 20 [aR (some 1), aI (nI t)] [] σ1 Q := by
  intro n
  induction n with
  | zero =>
    intro t σ1 ht hq hI1 hk hR h
    have ht' : t = 20 := by omega
    subst ht'
    have hle : (20 : Int32) ≤ nI 20 := by decide
    rw [v_98_20]
    simp only [z10, z00, not_true_eq_false, not_false_eq_true, false_implies, true_implies, implies_true, nI_1, Int32.add_zero, true_or, or_true, true_and, and_true, eI_eq, eL_eq, eR_eq, eV_eq, lg_cmp_ge, lg_cmp_le, lg_cmp_gt, lg_cmp_lt, lg_cmp_eq, v_98_0, v_98_1, v_98_4, v_98_7, v_98_10, v_98_11, v_98_12, v_98_15, v_98_18, v_98_19, v_98_21, v_98_23, v_98_26, v_98_27, v_98_30, v_98_31, v_98_32, v_98_33, v_98_36, v_98_39, v_98_42, v_98_46, v_98_49, v_98_52, hle]
    exact h σ1 hq hI1 hk hR
  | succ n ih =>
    intro t σ1 ht hq hI1 hk hR h
    have ht2 : t < 20 := by omega
    have hle : ¬ (20 : Int32) ≤ nI t := nI_ge (a := t) (b := 20) (by omega) (by omega)
    have hc : (nI t).toNatClampNeg = t := nI_clamp (by omega)
    rw [v_98_20]
    simp only [z10, z00, not_true_eq_false, not_false_eq_true, false_implies, true_implies, implies_true, nI_1, Int32.add_zero, true_or, or_true, true_and, and_true, eI_eq, eL_eq, eR_eq, eV_eq, lg_cmp_ge, lg_cmp_le, lg_cmp_gt, lg_cmp_lt, lg_cmp_eq, v_98_0, v_98_1, v_98_4, v_98_7, v_98_10, v_98_11, v_98_12, v_98_15, v_98_18, v_98_19, v_98_21, v_98_23, v_98_26, v_98_27, v_98_30, v_98_31, v_98_32, v_98_33, v_98_36, v_98_39, v_98_42, v_98_46, v_98_49, v_98_52, hle, hI1.xb.o1, hI1.xb.r1_0, hI1.xb.r1_2, hI1.xb.a2 ht2, hc, hI1.xb.tr ht2, hI1.xb.oT ht2]
    refine X_tellPairs hI1.xb (hI1.t ht2) (hI1.re ht2) hR (fun σ2 σ3 g1 g2 g3 g4 g5 => ?_)
    have hg := hI.g ht2
    have hq2 := hq.trans (XQ.s ht2 hg g1)
    have hI2 := hI1.set ht2 g1 g2
    have hk2 : gi σ2 7 6 = 0 := by rw [g1.2.2.1 7 6 (fun q => by have := hg 7 q.1; omega) (by omega)]; exact hk
    have hI3 : XI σ3 L := hI2.of g4.1 g4.2.1 (fun a ha => ⟨by rw [g4.2.2.1], g4.2.2.2 a (by omega)⟩) (fun u hu => by rw [g4.2.2.1]; exact ⟨rfl, rfl⟩) (Or.inl (by rw [g4.2.2.1]; exact hk2))
    refine ih (t + 1) σ3 (by omega) (hq2.trans (XQ.z g4)) hI3 (by rw [g4.2.2.1]; exact hk2) ?_ h
    rw [itr_snoc, Nat.zero_add]
    have e : tpL σ2 (L t) (L t) (itr (fun t o => tpL σ (L t) (L t) o) 0 t (fun _ => none)) = tpL σ (L t) (L t) (itr (fun t o => tpL σ (L t) (L t) o) 0 t (fun _ => none)) := tpL_of (fun a ha => hq2.rw ha) (hq2.u hg) hg _ _ hg
    rw [← e]
    exact g5
theorem X_learnPairs {d : Nat} {σ : Sto} {K : Sto → Prop} {L : Nat → List Nat} (hI : XI σ L) (h : ∀ σ', XQ σ σ' → XI σ' L → KN σ' (bdX σ L) → K σ') : CV (d + 9) 98 [aR (some 1)] σ K := by
  refine CV_of ?_
  show Ev (d + 9, 0, 0) 98 0 [aR (some 1), aU] [] σ _
  simp only [z10, z00, not_true_eq_false, not_false_eq_true, false_implies, true_implies, implies_true, nI_1, Int32.add_zero, true_or, or_true, true_and, and_true, eI_eq, eL_eq, eR_eq, eV_eq, lg_cmp_ge, lg_cmp_le, lg_cmp_gt, lg_cmp_lt, lg_cmp_eq, v_98_0, v_98_1, v_98_4, v_98_7, v_98_10, v_98_11, v_98_12, v_98_15, v_98_18, v_98_19, v_98_21, v_98_23, v_98_26, v_98_27, v_98_30, v_98_31, v_98_32, v_98_33, v_98_36, v_98_39, v_98_42, v_98_46, v_98_49, v_98_52, hI.xb.o1, hI.xb.r1_2, hI.xb.o7]
  refine ⟨fun g => ?_, fun g => ?_⟩
  · refine X_forgetBounds hI.xb (fun σ1 h1 h2 => ?_)
    have hI1 : XI σ1 L := hI.of h1.1 h1.2.1 (fun a ha => ⟨by rw [h1.2.2.1], h1.2.2.2 a (by omega)⟩) (fun u hu => by rw [h1.2.2.1]; exact ⟨rfl, rfl⟩) (Or.inl (by rw [h1.2.2.1]; exact g))
    refine X_learnPairs_loop (d := d + 6) hI 20 0 σ1 (by omega) (XQ.z h1) hI1 (by rw [h1.2.2.1]; exact g) h2 (fun σ2 hq2 hI2 hk2 hR2 => ?_)
    simp only [z10, z00, not_true_eq_false, not_false_eq_true, false_implies, true_implies, implies_true, nI_1, Int32.add_zero, true_or, or_true, true_and, and_true, eI_eq, eL_eq, eR_eq, eV_eq, lg_cmp_ge, lg_cmp_le, lg_cmp_gt, lg_cmp_lt, lg_cmp_eq, v_98_0, v_98_1, v_98_4, v_98_7, v_98_10, v_98_11, v_98_12, v_98_15, v_98_18, v_98_19, v_98_21, v_98_23, v_98_26, v_98_27, v_98_30, v_98_31, v_98_32, v_98_33, v_98_36, v_98_39, v_98_42, v_98_45, v_98_46, v_98_49, v_98_52, hI2.xb.o1, hI2.xb.r1_2, hI2.xb.o7]
    refine X_reckon hI2.xb hR2 (bnd_of hI.bn) (fun σ3 g1 g2 g3 => ?_)
    refine h σ3 (hq2.trans (XQ.k g1)) (hI2.of g1.1 g1.2.1 (fun a ha => ⟨funext fun k => g1.2.2.1 a k (by omega) (by omega), g1.2.2.2 a (by omega)⟩) (fun u hu => ⟨g1.2.2.1 _ _ (by omega) (by omega), g1.2.2.1 _ _ (by omega) (by omega)⟩) (Or.inr ⟨g3, by rw [hq2.bd (fun t ht => hI.g ht)]; exact g2⟩)) g2
  · rcases hI.2.2.2 with e | e
    · exact absurd e g
    · exact h σ (XQ.rfl σ) hI e.2
/-! the class: questions of the clocks -/
theorem X_bound {d : Nat} {σ : Sto} {x y : Int32} {K : Int64 → Sto → Prop} {L : Nat → List Nat} (hI : XI σ L) (h0 : ((x < 0 ∨ 6 ≤ x) ∨ (y < 0 ∨ 6 ≤ y)) → K (-9223372036854775808) σ) (h : ∀ a b, a < 6 → b < 6 → x = nI a → y = nI b → ∀ σ', XQ σ σ' → XI σ' L → K (oL (bdX σ L (6 * a + b))) σ') : CL (d + 10) 67 [aR (some 1), aI x, aI y] σ K := by
  refine CL_of ?_
  show Ev (d + 10, 0, 0) 67 0 [aR (some 1), aI x, aI y] [] σ _
  simp only [z10, z00, not_true_eq_false, not_false_eq_true, false_implies, true_implies, implies_true, nI_1, Int32.add_zero, true_or, or_true, true_and, and_true, eI_eq, eL_eq, eR_eq, eV_eq, lg_cmp_ge, lg_cmp_le, lg_cmp_gt, lg_cmp_lt, lg_cmp_eq, v_67_0, v_67_1, v_67_4, v_67_7, v_67_8, v_67_11, v_67_14, v_67_17, v_67_18, v_67_19, v_67_22, v_67_23, v_67_26, v_67_29, v_67_30, v_67_32, v_67_33, v_67_34, v_67_35, v_67_36, hI.xb.o1]
  refine X_isService (fun c => ?_) (fun a ha ea => ?_)
  · simp only [z10, z00, not_true_eq_false, not_false_eq_true, false_implies, true_implies, implies_true, nI_1, Int32.add_zero, true_or, or_true, true_and, and_true, eI_eq, eL_eq, eR_eq, eV_eq, lg_cmp_ge, lg_cmp_le, lg_cmp_gt, lg_cmp_lt, lg_cmp_eq, v_67_0, v_67_1, v_67_4, v_67_7, v_67_8, v_67_11, v_67_14, v_67_17, v_67_18, v_67_19, v_67_22, v_67_23, v_67_26, v_67_29, v_67_30, v_67_32, v_67_33, v_67_34, v_67_35, v_67_36, hI.xb.o1, hI.xb.o3, hI.xb.o7, hI.xb.o14, hI.xb.o20, hI.xb.r1_0, hI.xb.r1_1, hI.xb.r1_2, hI.xb.r1_3, hI.xb.r1_4, hI.xb.r1_5, hI.xb.r1_6, hI.xb.r3_0, hI.xb.r3_1, hI.xb.r3_2, hI.xb.r7_0, hI.xb.r7_1, hI.xb.r7_2, hI.xb.r7_3, hI.xb.r7_8, hI.xb.r7_9, hI.xb.r14_0, hI.xb.r14_1, hI.xb.r14_2, hI.xb.r14_3, hI.xb.r14_5, hI.xb.r20_0, hI.xb.r20_1, hI.xb.r20_2, hI.xb.r20_3, hI.xb.r20_5, z10, z00, not_true_eq_false, not_false_eq_true, false_implies, true_implies, implies_true, true_and, and_true, true_or, or_true, false_and, and_false, false_or, or_false]; exact h0 (Or.inl c)
  simp only [z10, z00, not_true_eq_false, not_false_eq_true, false_implies, true_implies, implies_true, nI_1, Int32.add_zero, true_or, or_true, true_and, and_true, eI_eq, eL_eq, eR_eq, eV_eq, lg_cmp_ge, lg_cmp_le, lg_cmp_gt, lg_cmp_lt, lg_cmp_eq, v_67_0, v_67_1, v_67_4, v_67_7, v_67_8, v_67_11, v_67_14, v_67_17, v_67_18, v_67_19, v_67_22, v_67_23, v_67_26, v_67_29, v_67_30, v_67_32, v_67_33, v_67_34, v_67_35, v_67_36, hI.xb.o1, hI.xb.o3, hI.xb.o7, hI.xb.o14, hI.xb.o20, hI.xb.r1_0, hI.xb.r1_1, hI.xb.r1_2, hI.xb.r1_3, hI.xb.r1_4, hI.xb.r1_5, hI.xb.r1_6, hI.xb.r3_0, hI.xb.r3_1, hI.xb.r3_2, hI.xb.r7_0, hI.xb.r7_1, hI.xb.r7_2, hI.xb.r7_3, hI.xb.r7_8, hI.xb.r7_9, hI.xb.r14_0, hI.xb.r14_1, hI.xb.r14_2, hI.xb.r14_3, hI.xb.r14_5, hI.xb.r20_0, hI.xb.r20_1, hI.xb.r20_2, hI.xb.r20_3, hI.xb.r20_5, z10, z00, not_true_eq_false, not_false_eq_true, false_implies, true_implies, implies_true, true_and, and_true, true_or, or_true, false_and, and_false, false_or, or_false]
  refine X_isService (fun c => ?_) (fun b hb eb => ?_)
  · simp only [z10, z00, not_true_eq_false, not_false_eq_true, false_implies, true_implies, implies_true, nI_1, Int32.add_zero, true_or, or_true, true_and, and_true, eI_eq, eL_eq, eR_eq, eV_eq, lg_cmp_ge, lg_cmp_le, lg_cmp_gt, lg_cmp_lt, lg_cmp_eq, v_67_0, v_67_1, v_67_4, v_67_7, v_67_8, v_67_11, v_67_14, v_67_17, v_67_18, v_67_19, v_67_22, v_67_23, v_67_26, v_67_29, v_67_30, v_67_32, v_67_33, v_67_34, v_67_35, v_67_36, hI.xb.o1, hI.xb.o3, hI.xb.o7, hI.xb.o14, hI.xb.o20, hI.xb.r1_0, hI.xb.r1_1, hI.xb.r1_2, hI.xb.r1_3, hI.xb.r1_4, hI.xb.r1_5, hI.xb.r1_6, hI.xb.r3_0, hI.xb.r3_1, hI.xb.r3_2, hI.xb.r7_0, hI.xb.r7_1, hI.xb.r7_2, hI.xb.r7_3, hI.xb.r7_8, hI.xb.r7_9, hI.xb.r14_0, hI.xb.r14_1, hI.xb.r14_2, hI.xb.r14_3, hI.xb.r14_5, hI.xb.r20_0, hI.xb.r20_1, hI.xb.r20_2, hI.xb.r20_3, hI.xb.r20_5, z10, z00, not_true_eq_false, not_false_eq_true, false_implies, true_implies, implies_true, true_and, and_true, true_or, or_true, false_and, and_false, false_or, or_false]; exact h0 (Or.inr c)
  simp only [z10, z00, not_true_eq_false, not_false_eq_true, false_implies, true_implies, implies_true, nI_1, Int32.add_zero, true_or, or_true, true_and, and_true, eI_eq, eL_eq, eR_eq, eV_eq, lg_cmp_ge, lg_cmp_le, lg_cmp_gt, lg_cmp_lt, lg_cmp_eq, v_67_0, v_67_1, v_67_4, v_67_7, v_67_8, v_67_11, v_67_14, v_67_17, v_67_18, v_67_19, v_67_22, v_67_23, v_67_26, v_67_29, v_67_30, v_67_32, v_67_33, v_67_34, v_67_35, v_67_36, hI.xb.o1, hI.xb.o3, hI.xb.o7, hI.xb.o14, hI.xb.o20, hI.xb.r1_0, hI.xb.r1_1, hI.xb.r1_2, hI.xb.r1_3, hI.xb.r1_4, hI.xb.r1_5, hI.xb.r1_6, hI.xb.r3_0, hI.xb.r3_1, hI.xb.r3_2, hI.xb.r7_0, hI.xb.r7_1, hI.xb.r7_2, hI.xb.r7_3, hI.xb.r7_8, hI.xb.r7_9, hI.xb.r14_0, hI.xb.r14_1, hI.xb.r14_2, hI.xb.r14_3, hI.xb.r14_5, hI.xb.r20_0, hI.xb.r20_1, hI.xb.r20_2, hI.xb.r20_3, hI.xb.r20_5, z10, z00, not_true_eq_false, not_false_eq_true, false_implies, true_implies, implies_true, true_and, and_true, true_or, or_true, false_and, and_false, false_or, or_false]
  refine X_learnPairs hI (fun σ' hq hI' hK => ?_)
  subst ea eb
  have hj : 6 * a + b < 36 := by omega
  have hc : (nI (6 * a + b)).toNatClampNeg = 6 * a + b := nI_clamp (by omega)
  simp only [hI'.xb.o1, hI'.xb.r1_2, hI'.xb.o7, hI'.xb.r7_0, z10, z00, not_true_eq_false, not_false_eq_true, false_implies, true_implies, implies_true, nI_1, Int32.add_zero, true_or, or_true, true_and, and_true, eI_eq, eL_eq, eR_eq, eV_eq, lg_cmp_ge, lg_cmp_le, lg_cmp_gt, lg_cmp_lt, lg_cmp_eq, v_67_0, v_67_1, v_67_4, v_67_7, v_67_8, v_67_11, v_67_14, v_67_17, v_67_18, v_67_19, v_67_22, v_67_23, v_67_26, v_67_29, v_67_30, v_67_32, v_67_33, v_67_34, v_67_35, v_67_36, ix6', hI'.xb.a8 hj, hc]
  rw [(hK.1 _ hj).1]
  exact h a b ha hb rfl rfl σ' hq hI'
theorem X_skew {d : Nat} {σ : Sto} {x y w : Int32} {K : Int64 → Sto → Prop} {L : Nat → List Nat} (hI : XI σ L) (h0 : ((x < 0 ∨ 6 ≤ x) ∨ (y < 0 ∨ 6 ≤ y) ∨ x = y ∨ w < 0 ∨ 1 < w) → K (-9223372036854775808) σ) (h : ∀ a b, a < 6 → b < 6 → x = nI a → y = nI b → ¬ x = y → ¬ w < 0 → ¬ 1 < w → ∀ σ', XQ σ σ' → XI σ' L → K (skA (fwA (bdX σ L)) a b w) σ') : CL (d + 10) 68 [aR (some 1), aI x, aI y, aI w] σ K := by
  refine CL_of ?_
  show Ev (d + 10, 0, 0) 68 0 [aR (some 1), aI x, aI y, aI w] [] σ _
  simp only [z10, z00, not_true_eq_false, not_false_eq_true, false_implies, true_implies, implies_true, nI_1, Int32.add_zero, true_or, or_true, true_and, and_true, eI_eq, eL_eq, eR_eq, eV_eq, lg_cmp_ge, lg_cmp_le, lg_cmp_gt, lg_cmp_lt, lg_cmp_eq, v_68_0, v_68_1, v_68_4, v_68_7, v_68_8, v_68_11, v_68_14, v_68_15, v_68_16, v_68_19, v_68_20, v_68_23, v_68_24, v_68_25, v_68_28, v_68_31, v_68_32, v_68_33, v_68_36, v_68_37, v_68_40, v_68_43, v_68_46, v_68_49, v_68_50, v_68_51, v_68_52, v_68_55, v_68_56, v_68_59, v_68_62, v_68_63, v_68_65, v_68_66, v_68_67, v_68_68, v_68_69, v_68_72, v_68_73, v_68_76, v_68_79, v_68_80, v_68_82, v_68_83, v_68_84, v_68_85, v_68_86, v_68_89, hI.xb.o1]
  refine X_isService (fun c => ?_) (fun a ha ea => ?_)
  · simp only [z10, z00, not_true_eq_false, not_false_eq_true, false_implies, true_implies, implies_true, nI_1, Int32.add_zero, true_or, or_true, true_and, and_true, eI_eq, eL_eq, eR_eq, eV_eq, lg_cmp_ge, lg_cmp_le, lg_cmp_gt, lg_cmp_lt, lg_cmp_eq, v_68_0, v_68_1, v_68_4, v_68_7, v_68_8, v_68_11, v_68_14, v_68_15, v_68_16, v_68_19, v_68_20, v_68_23, v_68_24, v_68_25, v_68_28, v_68_31, v_68_32, v_68_33, v_68_36, v_68_37, v_68_40, v_68_43, v_68_46, v_68_49, v_68_50, v_68_51, v_68_52, v_68_55, v_68_56, v_68_59, v_68_62, v_68_63, v_68_65, v_68_66, v_68_67, v_68_68, v_68_69, v_68_72, v_68_73, v_68_76, v_68_79, v_68_80, v_68_82, v_68_83, v_68_84, v_68_85, v_68_86, v_68_89, hI.xb.o1, hI.xb.o3, hI.xb.o7, hI.xb.o14, hI.xb.o20, hI.xb.r1_0, hI.xb.r1_1, hI.xb.r1_2, hI.xb.r1_3, hI.xb.r1_4, hI.xb.r1_5, hI.xb.r1_6, hI.xb.r3_0, hI.xb.r3_1, hI.xb.r3_2, hI.xb.r7_0, hI.xb.r7_1, hI.xb.r7_2, hI.xb.r7_3, hI.xb.r7_8, hI.xb.r7_9, hI.xb.r14_0, hI.xb.r14_1, hI.xb.r14_2, hI.xb.r14_3, hI.xb.r14_5, hI.xb.r20_0, hI.xb.r20_1, hI.xb.r20_2, hI.xb.r20_3, hI.xb.r20_5, z10, z00, not_true_eq_false, not_false_eq_true, false_implies, true_implies, implies_true, true_and, and_true, true_or, or_true, false_and, and_false, false_or, or_false]; exact h0 (Or.inl c)
  simp only [z10, z00, not_true_eq_false, not_false_eq_true, false_implies, true_implies, implies_true, nI_1, Int32.add_zero, true_or, or_true, true_and, and_true, eI_eq, eL_eq, eR_eq, eV_eq, lg_cmp_ge, lg_cmp_le, lg_cmp_gt, lg_cmp_lt, lg_cmp_eq, v_68_0, v_68_1, v_68_4, v_68_7, v_68_8, v_68_11, v_68_14, v_68_15, v_68_16, v_68_19, v_68_20, v_68_23, v_68_24, v_68_25, v_68_28, v_68_31, v_68_32, v_68_33, v_68_36, v_68_37, v_68_40, v_68_43, v_68_46, v_68_49, v_68_50, v_68_51, v_68_52, v_68_55, v_68_56, v_68_59, v_68_62, v_68_63, v_68_65, v_68_66, v_68_67, v_68_68, v_68_69, v_68_72, v_68_73, v_68_76, v_68_79, v_68_80, v_68_82, v_68_83, v_68_84, v_68_85, v_68_86, v_68_89, hI.xb.o1, hI.xb.o3, hI.xb.o7, hI.xb.o14, hI.xb.o20, hI.xb.r1_0, hI.xb.r1_1, hI.xb.r1_2, hI.xb.r1_3, hI.xb.r1_4, hI.xb.r1_5, hI.xb.r1_6, hI.xb.r3_0, hI.xb.r3_1, hI.xb.r3_2, hI.xb.r7_0, hI.xb.r7_1, hI.xb.r7_2, hI.xb.r7_3, hI.xb.r7_8, hI.xb.r7_9, hI.xb.r14_0, hI.xb.r14_1, hI.xb.r14_2, hI.xb.r14_3, hI.xb.r14_5, hI.xb.r20_0, hI.xb.r20_1, hI.xb.r20_2, hI.xb.r20_3, hI.xb.r20_5, z10, z00, not_true_eq_false, not_false_eq_true, false_implies, true_implies, implies_true, true_and, and_true, true_or, or_true, false_and, and_false, false_or, or_false]
  refine X_isService (fun c => ?_) (fun b hb eb => ?_)
  · simp only [z10, z00, not_true_eq_false, not_false_eq_true, false_implies, true_implies, implies_true, nI_1, Int32.add_zero, true_or, or_true, true_and, and_true, eI_eq, eL_eq, eR_eq, eV_eq, lg_cmp_ge, lg_cmp_le, lg_cmp_gt, lg_cmp_lt, lg_cmp_eq, v_68_0, v_68_1, v_68_4, v_68_7, v_68_8, v_68_11, v_68_14, v_68_15, v_68_16, v_68_19, v_68_20, v_68_23, v_68_24, v_68_25, v_68_28, v_68_31, v_68_32, v_68_33, v_68_36, v_68_37, v_68_40, v_68_43, v_68_46, v_68_49, v_68_50, v_68_51, v_68_52, v_68_55, v_68_56, v_68_59, v_68_62, v_68_63, v_68_65, v_68_66, v_68_67, v_68_68, v_68_69, v_68_72, v_68_73, v_68_76, v_68_79, v_68_80, v_68_82, v_68_83, v_68_84, v_68_85, v_68_86, v_68_89, hI.xb.o1, hI.xb.o3, hI.xb.o7, hI.xb.o14, hI.xb.o20, hI.xb.r1_0, hI.xb.r1_1, hI.xb.r1_2, hI.xb.r1_3, hI.xb.r1_4, hI.xb.r1_5, hI.xb.r1_6, hI.xb.r3_0, hI.xb.r3_1, hI.xb.r3_2, hI.xb.r7_0, hI.xb.r7_1, hI.xb.r7_2, hI.xb.r7_3, hI.xb.r7_8, hI.xb.r7_9, hI.xb.r14_0, hI.xb.r14_1, hI.xb.r14_2, hI.xb.r14_3, hI.xb.r14_5, hI.xb.r20_0, hI.xb.r20_1, hI.xb.r20_2, hI.xb.r20_3, hI.xb.r20_5, z10, z00, not_true_eq_false, not_false_eq_true, false_implies, true_implies, implies_true, true_and, and_true, true_or, or_true, false_and, and_false, false_or, or_false]; exact h0 (Or.inr (Or.inl c))
  simp only [z10, z00, not_true_eq_false, not_false_eq_true, false_implies, true_implies, implies_true, nI_1, Int32.add_zero, true_or, or_true, true_and, and_true, eI_eq, eL_eq, eR_eq, eV_eq, lg_cmp_ge, lg_cmp_le, lg_cmp_gt, lg_cmp_lt, lg_cmp_eq, v_68_0, v_68_1, v_68_4, v_68_7, v_68_8, v_68_11, v_68_14, v_68_15, v_68_16, v_68_19, v_68_20, v_68_23, v_68_24, v_68_25, v_68_28, v_68_31, v_68_32, v_68_33, v_68_36, v_68_37, v_68_40, v_68_43, v_68_46, v_68_49, v_68_50, v_68_51, v_68_52, v_68_55, v_68_56, v_68_59, v_68_62, v_68_63, v_68_65, v_68_66, v_68_67, v_68_68, v_68_69, v_68_72, v_68_73, v_68_76, v_68_79, v_68_80, v_68_82, v_68_83, v_68_84, v_68_85, v_68_86, v_68_89, hI.xb.o1, hI.xb.o3, hI.xb.o7, hI.xb.o14, hI.xb.o20, hI.xb.r1_0, hI.xb.r1_1, hI.xb.r1_2, hI.xb.r1_3, hI.xb.r1_4, hI.xb.r1_5, hI.xb.r1_6, hI.xb.r3_0, hI.xb.r3_1, hI.xb.r3_2, hI.xb.r7_0, hI.xb.r7_1, hI.xb.r7_2, hI.xb.r7_3, hI.xb.r7_8, hI.xb.r7_9, hI.xb.r14_0, hI.xb.r14_1, hI.xb.r14_2, hI.xb.r14_3, hI.xb.r14_5, hI.xb.r20_0, hI.xb.r20_1, hI.xb.r20_2, hI.xb.r20_3, hI.xb.r20_5, z10, z00, not_true_eq_false, not_false_eq_true, false_implies, true_implies, implies_true, true_and, and_true, true_or, or_true, false_and, and_false, false_or, or_false]
  refine ⟨fun g => h0 (Or.inr (Or.inr (Or.inl g))), fun g => ⟨fun g2 => h0 (Or.inr (Or.inr (Or.inr (Or.inl g2)))), fun g2 => ⟨fun g3 => ?_, fun g3 => h0 (Or.inr (Or.inr (Or.inr (Or.inr (Int32.not_le.mp g3)))))⟩⟩⟩
  have g3' : ¬ 1 < w := Int32.not_lt.mpr g3
  refine X_learnPairs hI (fun σ' hq hI' hK => ?_)
  have h' := h a b ha hb ea eb g g2 g3' σ' hq hI'
  subst ea eb
  have hj : 6 * a + b < 36 := by omega
  have hc : (nI (6 * a + b)).toNatClampNeg = 6 * a + b := nI_clamp (by omega)
  have hj2 : 6 * b + a < 36 := by omega
  have hc2 : (nI (6 * b + a)).toNatClampNeg = 6 * b + a := nI_clamp (by omega)
  simp only [hI'.xb.o1, hI'.xb.r1_2, hI'.xb.o7, hI'.xb.r7_1, hK.2.2.1, z10, z00, not_true_eq_false, not_false_eq_true, false_implies, true_implies, implies_true, nI_1, Int32.add_zero, true_or, or_true, true_and, and_true, eI_eq, eL_eq, eR_eq, eV_eq, lg_cmp_ge, lg_cmp_le, lg_cmp_gt, lg_cmp_lt, lg_cmp_eq, v_68_0, v_68_1, v_68_4, v_68_7, v_68_8, v_68_11, v_68_14, v_68_15, v_68_16, v_68_19, v_68_20, v_68_23, v_68_24, v_68_25, v_68_28, v_68_31, v_68_32, v_68_33, v_68_36, v_68_37, v_68_40, v_68_43, v_68_46, v_68_49, v_68_50, v_68_51, v_68_52, v_68_55, v_68_56, v_68_59, v_68_62, v_68_63, v_68_65, v_68_66, v_68_67, v_68_68, v_68_69, v_68_72, v_68_73, v_68_76, v_68_79, v_68_80, v_68_82, v_68_83, v_68_84, v_68_85, v_68_86, v_68_89, ix6', hI'.xb.a9 hj, hc, hI'.xb.a9 hj2, hc2]
  unfold skA at h'
  cases hag : agB (fwA (bdX σ L)) with
  | false =>
    rw [hag] at h'
    simp only [bI, Bool.false_eq_true, if_false, z10, z00, not_true_eq_false, not_false_eq_true, false_implies, true_implies, implies_true, nI_1, Int32.add_zero, true_or, or_true, true_and, and_true, eI_eq, eL_eq, eR_eq, eV_eq, lg_cmp_ge, lg_cmp_le, lg_cmp_gt, lg_cmp_lt, lg_cmp_eq, v_68_0, v_68_1, v_68_4, v_68_7, v_68_8, v_68_11, v_68_14, v_68_15, v_68_16, v_68_19, v_68_20, v_68_23, v_68_24, v_68_25, v_68_28, v_68_31, v_68_32, v_68_33, v_68_36, v_68_37, v_68_40, v_68_43, v_68_46, v_68_49, v_68_50, v_68_51, v_68_52, v_68_55, v_68_56, v_68_59, v_68_62, v_68_63, v_68_65, v_68_66, v_68_67, v_68_68, v_68_69, v_68_72, v_68_73, v_68_76, v_68_79, v_68_80, v_68_82, v_68_83, v_68_84, v_68_85, v_68_86, v_68_89, hI.xb.o1, hI.xb.o3, hI.xb.o7, hI.xb.o14, hI.xb.o20, hI.xb.r1_0, hI.xb.r1_1, hI.xb.r1_2, hI.xb.r1_3, hI.xb.r1_4, hI.xb.r1_5, hI.xb.r1_6, hI.xb.r3_0, hI.xb.r3_1, hI.xb.r3_2, hI.xb.r7_0, hI.xb.r7_1, hI.xb.r7_2, hI.xb.r7_3, hI.xb.r7_8, hI.xb.r7_9, hI.xb.r14_0, hI.xb.r14_1, hI.xb.r14_2, hI.xb.r14_3, hI.xb.r14_5, hI.xb.r20_0, hI.xb.r20_1, hI.xb.r20_2, hI.xb.r20_3, hI.xb.r20_5, z10, z00, not_true_eq_false, not_false_eq_true, false_implies, true_implies, implies_true, true_and, and_true, true_or, or_true, false_and, and_false, false_or, or_false] at h' ⊢
    exact h'
  | true =>
    rw [hag] at h'
    simp only [bI, if_true, z10, z00, not_true_eq_false, not_false_eq_true, false_implies, true_implies, implies_true, nI_1, Int32.add_zero, true_or, or_true, true_and, and_true, eI_eq, eL_eq, eR_eq, eV_eq, lg_cmp_ge, lg_cmp_le, lg_cmp_gt, lg_cmp_lt, lg_cmp_eq, v_68_0, v_68_1, v_68_4, v_68_7, v_68_8, v_68_11, v_68_14, v_68_15, v_68_16, v_68_19, v_68_20, v_68_23, v_68_24, v_68_25, v_68_28, v_68_31, v_68_32, v_68_33, v_68_36, v_68_37, v_68_40, v_68_43, v_68_46, v_68_49, v_68_50, v_68_51, v_68_52, v_68_55, v_68_56, v_68_59, v_68_62, v_68_63, v_68_65, v_68_66, v_68_67, v_68_68, v_68_69, v_68_72, v_68_73, v_68_76, v_68_79, v_68_80, v_68_82, v_68_83, v_68_84, v_68_85, v_68_86, v_68_89, hI.xb.o1, hI.xb.o3, hI.xb.o7, hI.xb.o14, hI.xb.o20, hI.xb.r1_0, hI.xb.r1_1, hI.xb.r1_2, hI.xb.r1_3, hI.xb.r1_4, hI.xb.r1_5, hI.xb.r1_6, hI.xb.r3_0, hI.xb.r3_1, hI.xb.r3_2, hI.xb.r7_0, hI.xb.r7_1, hI.xb.r7_2, hI.xb.r7_3, hI.xb.r7_8, hI.xb.r7_9, hI.xb.r14_0, hI.xb.r14_1, hI.xb.r14_2, hI.xb.r14_3, hI.xb.r14_5, hI.xb.r20_0, hI.xb.r20_1, hI.xb.r20_2, hI.xb.r20_3, hI.xb.r20_5, z10, z00, not_true_eq_false, not_false_eq_true, false_implies, true_implies, implies_true, true_and, and_true, true_or, or_true, false_and, and_false, false_or, or_false] at h' ⊢
    have hw : w = 0 ∨ w = 1 := by
      obtain ⟨j, hj, e⟩ := ix_of (n := 2) (t := w) (by decide) g2 (fun q => g3' (Int32.lt_of_lt_of_le (by decide) q))
      rcases (show j = 0 ∨ j = 1 by omega) with rfl | rfl
      · exact Or.inl e
      · exact Or.inr e
    rcases hw with rfl | rfl
    · have c1 : ¬ (0 : Int32) = 1 := by decide
      simp only [c1, z10, z00, not_true_eq_false, not_false_eq_true, false_implies, true_implies, implies_true, nI_1, Int32.add_zero, true_or, or_true, true_and, and_true, eI_eq, eL_eq, eR_eq, eV_eq, lg_cmp_ge, lg_cmp_le, lg_cmp_gt, lg_cmp_lt, lg_cmp_eq, v_68_0, v_68_1, v_68_4, v_68_7, v_68_8, v_68_11, v_68_14, v_68_15, v_68_16, v_68_19, v_68_20, v_68_23, v_68_24, v_68_25, v_68_28, v_68_31, v_68_32, v_68_33, v_68_36, v_68_37, v_68_40, v_68_43, v_68_46, v_68_49, v_68_50, v_68_51, v_68_52, v_68_55, v_68_56, v_68_59, v_68_62, v_68_63, v_68_65, v_68_66, v_68_67, v_68_68, v_68_69, v_68_72, v_68_73, v_68_76, v_68_79, v_68_80, v_68_82, v_68_83, v_68_84, v_68_85, v_68_86, v_68_89, hI.xb.o1, hI.xb.o3, hI.xb.o7, hI.xb.o14, hI.xb.o20, hI.xb.r1_0, hI.xb.r1_1, hI.xb.r1_2, hI.xb.r1_3, hI.xb.r1_4, hI.xb.r1_5, hI.xb.r1_6, hI.xb.r3_0, hI.xb.r3_1, hI.xb.r3_2, hI.xb.r7_0, hI.xb.r7_1, hI.xb.r7_2, hI.xb.r7_3, hI.xb.r7_8, hI.xb.r7_9, hI.xb.r14_0, hI.xb.r14_1, hI.xb.r14_2, hI.xb.r14_3, hI.xb.r14_5, hI.xb.r20_0, hI.xb.r20_1, hI.xb.r20_2, hI.xb.r20_3, hI.xb.r20_5, z10, z00, not_true_eq_false, not_false_eq_true, false_implies, true_implies, implies_true, true_and, and_true, true_or, or_true, false_and, and_false, false_or, or_false]
      refine X_negated ?_
      rw [(hK.2.1 _ hj2).1]
      have hno := (hK.2.1 _ hj2).2
      simp only [if_true] at h'
      cases hf : fwA (bdX σ L) (6 * b + a) with
      | none => rw [hf] at h'; simpa [oL] using h'
      | some v =>
        rw [hf] at h' hno
        have : ¬ v = -9223372036854775808 := fun q => hno (by rw [q])
        simpa [oL, this] using h'
    · have c1 : ¬ (1 : Int32) = 0 := by decide
      simp only [z10, z00, not_true_eq_false, not_false_eq_true, false_implies, true_implies, implies_true, nI_1, Int32.add_zero, true_or, or_true, true_and, and_true, eI_eq, eL_eq, eR_eq, eV_eq, lg_cmp_ge, lg_cmp_le, lg_cmp_gt, lg_cmp_lt, lg_cmp_eq, v_68_0, v_68_1, v_68_4, v_68_7, v_68_8, v_68_11, v_68_14, v_68_15, v_68_16, v_68_19, v_68_20, v_68_23, v_68_24, v_68_25, v_68_28, v_68_31, v_68_32, v_68_33, v_68_36, v_68_37, v_68_40, v_68_43, v_68_46, v_68_49, v_68_50, v_68_51, v_68_52, v_68_55, v_68_56, v_68_59, v_68_62, v_68_63, v_68_65, v_68_66, v_68_67, v_68_68, v_68_69, v_68_72, v_68_73, v_68_76, v_68_79, v_68_80, v_68_82, v_68_83, v_68_84, v_68_85, v_68_86, v_68_89, hI.xb.o1, hI.xb.o3, hI.xb.o7, hI.xb.o14, hI.xb.o20, hI.xb.r1_0, hI.xb.r1_1, hI.xb.r1_2, hI.xb.r1_3, hI.xb.r1_4, hI.xb.r1_5, hI.xb.r1_6, hI.xb.r3_0, hI.xb.r3_1, hI.xb.r3_2, hI.xb.r7_0, hI.xb.r7_1, hI.xb.r7_2, hI.xb.r7_3, hI.xb.r7_8, hI.xb.r7_9, hI.xb.r14_0, hI.xb.r14_1, hI.xb.r14_2, hI.xb.r14_3, hI.xb.r14_5, hI.xb.r20_0, hI.xb.r20_1, hI.xb.r20_2, hI.xb.r20_3, hI.xb.r20_5, z10, z00, not_true_eq_false, not_false_eq_true, false_implies, true_implies, implies_true, true_and, and_true, true_or, or_true, false_and, and_false, false_or, or_false]
      rw [(hK.2.1 _ hj).1]
      simpa [c1] using h'
def riX (o : Nat → Option Int64) (i : Nat) : Int32 := if agB (fwA o) then -1 else match fnR o 2 5 with
  | none => -1
  | some r => match r[i]? with
    | none => -1
    | some q => nI q
theorem X_ring {d : Nat} {σ : Sto} {x : Int32} {K : Int32 → Sto → Prop} {L : Nat → List Nat} (hI : XI σ L) (h0 : x < 0 → ∀ σ', XQ σ σ' → XI σ' L → K (-1) σ') (h : ∀ i, i < 2 ^ 31 → x = nI i → ∀ σ', XQ σ σ' → XI σ' L → K (riX (bdX σ L) i) σ') : CI (d + 10) 69 [aR (some 1), aI x] σ K := by
  refine CI_of ?_
  show Ev (d + 10, 0, 0) 69 0 [aR (some 1), aI x] [] σ _
  simp only [z10, z00, not_true_eq_false, not_false_eq_true, false_implies, true_implies, implies_true, nI_1, Int32.add_zero, true_or, or_true, true_and, and_true, eI_eq, eL_eq, eR_eq, eV_eq, lg_cmp_ge, lg_cmp_le, lg_cmp_gt, lg_cmp_lt, lg_cmp_eq, v_69_0, v_69_1, v_69_4, v_69_5, v_69_8, v_69_9, v_69_10, v_69_13, v_69_16, v_69_19, v_69_20, v_69_23, v_69_24, v_69_27, v_69_30, v_69_31, v_69_32, hI.xb.o1]
  refine X_learnPairs hI (fun σ' hq hI' hK => ?_)
  simp only [hI'.xb.o1, hI'.xb.r1_2, hI'.xb.o7, hI'.xb.r7_3, z10, z00, not_true_eq_false, not_false_eq_true, false_implies, true_implies, implies_true, nI_1, Int32.add_zero, true_or, or_true, true_and, and_true, eI_eq, eL_eq, eR_eq, eV_eq, lg_cmp_ge, lg_cmp_le, lg_cmp_gt, lg_cmp_lt, lg_cmp_eq, v_69_0, v_69_1, v_69_4, v_69_5, v_69_8, v_69_9, v_69_10, v_69_13, v_69_16, v_69_19, v_69_20, v_69_23, v_69_24, v_69_27, v_69_30, v_69_31, v_69_32, hI.xb.o1, hI.xb.o3, hI.xb.o7, hI.xb.o14, hI.xb.o20, hI.xb.r1_0, hI.xb.r1_1, hI.xb.r1_2, hI.xb.r1_3, hI.xb.r1_4, hI.xb.r1_5, hI.xb.r1_6, hI.xb.r3_0, hI.xb.r3_1, hI.xb.r3_2, hI.xb.r7_0, hI.xb.r7_1, hI.xb.r7_2, hI.xb.r7_3, hI.xb.r7_8, hI.xb.r7_9, hI.xb.r14_0, hI.xb.r14_1, hI.xb.r14_2, hI.xb.r14_3, hI.xb.r14_5, hI.xb.r20_0, hI.xb.r20_1, hI.xb.r20_2, hI.xb.r20_3, hI.xb.r20_5, z10, z00, not_true_eq_false, not_false_eq_true, false_implies, true_implies, implies_true, true_and, and_true, true_or, or_true, false_and, and_false, false_or, or_false]
  refine ⟨fun c => h0 c σ' hq hI', fun c => ?_⟩
  obtain ⟨i, hi, e⟩ : ∃ i, i < 2 ^ 31 ∧ x = nI i := nI_of c
  subst e
  have h' := h i hi rfl σ' hq hI'
  have hc : (nI i).toNatClampNeg = i := nI_clamp hi
  obtain ⟨k1, k2, k3, z1, z2, z3⟩ := hK
  have h00 : ¬ nI i < 0 := fun q => c q
  unfold riX at h'
  cases hag : agB (fwA (bdX σ L)) with
  | true =>
    rw [z1 hag]
    rw [hag] at h'
    simp only [if_true] at h'
    exact ⟨fun g => absurd g h00, fun _ => h'⟩
  | false =>
    rw [hag] at h'
    simp only [Bool.false_eq_true, if_false] at h'
    cases hr : fnR (bdX σ L) 2 5 with
    | none =>
      rw [z2 hag hr]
      rw [hr] at h'
      exact ⟨fun g => absurd g h00, fun _ => h'⟩
    | some r =>
      obtain ⟨e1, e2, e3⟩ := z3 hag r hr
      rw [hr] at h'
      rw [e1]
      refine ⟨fun g => ?_, fun g => ?_⟩
      · have hlt : i < r.length := by
          exact (nI_ltI hi (by omega)).mp g
        simp only [List.getElem?_eq_getElem hlt] at h'
        have eq := e2 i r[i] (List.getElem?_eq_getElem hlt)
        simp only [hI'.xb.x11 (k := i) (by omega), hc, eq.1, z10, z00, not_true_eq_false, not_false_eq_true, false_implies, true_implies, implies_true, nI_1, Int32.add_zero, true_or, or_true, true_and, and_true, eI_eq, eL_eq, eR_eq, eV_eq, lg_cmp_ge, lg_cmp_le, lg_cmp_gt, lg_cmp_lt, lg_cmp_eq, v_69_0, v_69_1, v_69_4, v_69_5, v_69_8, v_69_9, v_69_10, v_69_13, v_69_16, v_69_19, v_69_20, v_69_23, v_69_24, v_69_27, v_69_30, v_69_31, v_69_32, hI.xb.o1, hI.xb.o3, hI.xb.o7, hI.xb.o14, hI.xb.o20, hI.xb.r1_0, hI.xb.r1_1, hI.xb.r1_2, hI.xb.r1_3, hI.xb.r1_4, hI.xb.r1_5, hI.xb.r1_6, hI.xb.r3_0, hI.xb.r3_1, hI.xb.r3_2, hI.xb.r7_0, hI.xb.r7_1, hI.xb.r7_2, hI.xb.r7_3, hI.xb.r7_8, hI.xb.r7_9, hI.xb.r14_0, hI.xb.r14_1, hI.xb.r14_2, hI.xb.r14_3, hI.xb.r14_5, hI.xb.r20_0, hI.xb.r20_1, hI.xb.r20_2, hI.xb.r20_3, hI.xb.r20_5, z10, z00, not_true_eq_false, not_false_eq_true, false_implies, true_implies, implies_true, true_and, and_true, true_or, or_true, false_and, and_false, false_or, or_false]
        exact h'
      · have hge : r.length ≤ i := by
          exact Nat.le_of_not_lt (fun q => g ((nI_ltI hi (by omega)).mpr q))
        simp only [List.getElem?_eq_none hge] at h'
        exact h'
theorem X_put {d : Nat} {σ : Sto} {K : Int32 → Sto → Prop} {L : Nat → List Nat} (hI : XI σ L) (h0 : agB (fwA (bdX σ L)) = false → ∀ σ', XQ σ σ' → XI σ' L → K (-3) σ') (h : agB (fwA (bdX σ L)) = true → ∀ σ1 σ2, XQ σ σ1 → XI σ1 L → scZ 10 σ1 σ2 → XI σ2 L → gl σ2 10 = (itr (npX (fwA (bdX σ L))) 0 6 (gl σ 10, 0)).1 → K (nI (itr (npX (fwA (bdX σ L))) 0 6 (gl σ 10, 0)).2) σ2) : CI (d + 10) 70 [aR (some 1)] σ K := by
  refine CI_of ?_
  show Ev (d + 10, 0, 0) 70 0 [aR (some 1)] [] σ _
  simp only [z10, z00, not_true_eq_false, not_false_eq_true, false_implies, true_implies, implies_true, nI_1, Int32.add_zero, true_or, or_true, true_and, and_true, eI_eq, eL_eq, eR_eq, eV_eq, lg_cmp_ge, lg_cmp_le, lg_cmp_gt, lg_cmp_lt, lg_cmp_eq, v_70_0, v_70_1, v_70_4, v_70_5, v_70_8, v_70_11, v_70_14, v_70_15, v_70_18, v_70_21, v_70_24, v_70_26, hI.xb.o1]
  refine X_learnPairs hI (fun σ' hq hI' hK => ?_)
  simp only [hI'.xb.o1, hI'.xb.r1_2, hI'.xb.o7, hK.2.2.1, z10, z00, not_true_eq_false, not_false_eq_true, false_implies, true_implies, implies_true, nI_1, Int32.add_zero, true_or, or_true, true_and, and_true, eI_eq, eL_eq, eR_eq, eV_eq, lg_cmp_ge, lg_cmp_le, lg_cmp_gt, lg_cmp_lt, lg_cmp_eq, v_70_0, v_70_1, v_70_4, v_70_5, v_70_8, v_70_11, v_70_14, v_70_15, v_70_18, v_70_21, v_70_24, v_70_26, hI.xb.o1, hI.xb.o3, hI.xb.o7, hI.xb.o14, hI.xb.o20, hI.xb.r1_0, hI.xb.r1_1, hI.xb.r1_2, hI.xb.r1_3, hI.xb.r1_4, hI.xb.r1_5, hI.xb.r1_6, hI.xb.r3_0, hI.xb.r3_1, hI.xb.r3_2, hI.xb.r7_0, hI.xb.r7_1, hI.xb.r7_2, hI.xb.r7_3, hI.xb.r7_8, hI.xb.r7_9, hI.xb.r14_0, hI.xb.r14_1, hI.xb.r14_2, hI.xb.r14_3, hI.xb.r14_5, hI.xb.r20_0, hI.xb.r20_1, hI.xb.r20_2, hI.xb.r20_3, hI.xb.r20_5, z10, z00, not_true_eq_false, not_false_eq_true, false_implies, true_implies, implies_true, true_and, and_true, true_or, or_true, false_and, and_false, false_or, or_false]
  have e10 : gl σ' 10 = gl σ 10 := hq.2.2.2.2.2 10 (by decide) (by decide) (by decide) (by decide) (by decide)
  cases hag : agB (fwA (bdX σ L)) with
  | false =>
    simp only [bI, Bool.false_eq_true, if_false, z10, z00, not_true_eq_false, not_false_eq_true, false_implies, true_implies, implies_true, nI_1, Int32.add_zero, true_or, or_true, true_and, and_true, eI_eq, eL_eq, eR_eq, eV_eq, lg_cmp_ge, lg_cmp_le, lg_cmp_gt, lg_cmp_lt, lg_cmp_eq, v_70_0, v_70_1, v_70_4, v_70_5, v_70_8, v_70_11, v_70_14, v_70_15, v_70_18, v_70_21, v_70_24, v_70_26, hI.xb.o1, hI.xb.o3, hI.xb.o7, hI.xb.o14, hI.xb.o20, hI.xb.r1_0, hI.xb.r1_1, hI.xb.r1_2, hI.xb.r1_3, hI.xb.r1_4, hI.xb.r1_5, hI.xb.r1_6, hI.xb.r3_0, hI.xb.r3_1, hI.xb.r3_2, hI.xb.r7_0, hI.xb.r7_1, hI.xb.r7_2, hI.xb.r7_3, hI.xb.r7_8, hI.xb.r7_9, hI.xb.r14_0, hI.xb.r14_1, hI.xb.r14_2, hI.xb.r14_3, hI.xb.r14_5, hI.xb.r20_0, hI.xb.r20_1, hI.xb.r20_2, hI.xb.r20_3, hI.xb.r20_5, z10, z00, not_true_eq_false, not_false_eq_true, false_implies, true_implies, implies_true, true_and, and_true, true_or, or_true, false_and, and_false, false_or, or_false]
    exact h0 hag σ' hq hI'
  | true =>
    simp only [bI, if_true, z10, z00, not_true_eq_false, not_false_eq_true, false_implies, true_implies, implies_true, nI_1, Int32.add_zero, true_or, or_true, true_and, and_true, eI_eq, eL_eq, eR_eq, eV_eq, lg_cmp_ge, lg_cmp_le, lg_cmp_gt, lg_cmp_lt, lg_cmp_eq, v_70_0, v_70_1, v_70_4, v_70_5, v_70_8, v_70_11, v_70_14, v_70_15, v_70_18, v_70_21, v_70_24, v_70_26, hI.xb.o1, hI.xb.o3, hI.xb.o7, hI.xb.o14, hI.xb.o20, hI.xb.r1_0, hI.xb.r1_1, hI.xb.r1_2, hI.xb.r1_3, hI.xb.r1_4, hI.xb.r1_5, hI.xb.r1_6, hI.xb.r3_0, hI.xb.r3_1, hI.xb.r3_2, hI.xb.r7_0, hI.xb.r7_1, hI.xb.r7_2, hI.xb.r7_3, hI.xb.r7_8, hI.xb.r7_9, hI.xb.r14_0, hI.xb.r14_1, hI.xb.r14_2, hI.xb.r14_3, hI.xb.r14_5, hI.xb.r20_0, hI.xb.r20_1, hI.xb.r20_2, hI.xb.r20_3, hI.xb.r20_5, z10, z00, not_true_eq_false, not_false_eq_true, false_implies, true_implies, implies_true, true_and, and_true, true_or, or_true, false_and, and_false, false_or, or_false]
    refine X_setAll hI'.xb hK.2.1 (fun σ2 g1 g2 => ?_)
    rw [e10] at g2 ⊢
    refine h hag σ' σ2 hq hI' g1 (hI'.of g1.1 g1.2.1 (fun a ha => ⟨by rw [g1.2.2.1], g1.2.2.2 a (by omega)⟩) (fun u hu => by rw [g1.2.2.1]; exact ⟨rfl, rfl⟩) ?_) g2
    rw [hq.bd (fun t ht => hI.g ht), g1.2.2.1]
    rcases hI'.2.2.2 with q | q
    · exact Or.inl q
    · exact Or.inr ⟨q.1, KN_of (g1.2.2.2 8 (by decide)) (g1.2.2.2 9 (by decide)) (by rw [g1.2.2.1]) (by rw [g1.2.2.1]) (by rw [g1.2.2.1]) hK⟩
theorem X_moved {d : Nat} {σ : Sto} {x : Int32} {K : Int64 → Sto → Prop} (hX : XB σ) (h0 : (x < 0 ∨ 6 ≤ x) → K (-9223372036854775808) σ) (h : ∀ a, a < 6 → x = nI a → K (gl σ 10 a) σ) : CL (d + 1) 71 [aR (some 1), aI x] σ K := by
  refine CL_of ?_
  show Ev (d + 1, 0, 0) 71 0 [aR (some 1), aI x] [] σ _
  simp only [z10, z00, not_true_eq_false, not_false_eq_true, false_implies, true_implies, implies_true, nI_1, Int32.add_zero, true_or, or_true, true_and, and_true, eI_eq, eL_eq, eR_eq, eV_eq, lg_cmp_ge, lg_cmp_le, lg_cmp_gt, lg_cmp_lt, lg_cmp_eq, v_71_0, v_71_1, v_71_4, v_71_7, v_71_8, v_71_11, v_71_14, v_71_15, v_71_16, v_71_19, v_71_22, hX.o1, hX.r1_2, hX.o7, hX.r7_2]
  refine X_isService (fun c => ?_) (fun a ha ea => ?_)
  · simp only [z10, z00, not_true_eq_false, not_false_eq_true, false_implies, true_implies, implies_true, nI_1, Int32.add_zero, true_or, or_true, true_and, and_true, eI_eq, eL_eq, eR_eq, eV_eq, lg_cmp_ge, lg_cmp_le, lg_cmp_gt, lg_cmp_lt, lg_cmp_eq, v_71_0, v_71_1, v_71_4, v_71_7, v_71_8, v_71_11, v_71_14, v_71_15, v_71_16, v_71_19, v_71_22, hX.o1, hX.o3, hX.o7, hX.o14, hX.o20, hX.r1_0, hX.r1_1, hX.r1_2, hX.r1_3, hX.r1_4, hX.r1_5, hX.r1_6, hX.r3_0, hX.r3_1, hX.r3_2, hX.r7_0, hX.r7_1, hX.r7_2, hX.r7_3, hX.r7_8, hX.r7_9, hX.r14_0, hX.r14_1, hX.r14_2, hX.r14_3, hX.r14_5, hX.r20_0, hX.r20_1, hX.r20_2, hX.r20_3, hX.r20_5, z10, z00, not_true_eq_false, not_false_eq_true, false_implies, true_implies, implies_true, true_and, and_true, true_or, or_true, false_and, and_false, false_or, or_false]; exact h0 c
  · subst ea
    have hc : (nI a).toNatClampNeg = a := nI_clamp (by omega)
    simp only [hX.a10 ha, hc, z10, z00, not_true_eq_false, not_false_eq_true, false_implies, true_implies, implies_true, nI_1, Int32.add_zero, true_or, or_true, true_and, and_true, eI_eq, eL_eq, eR_eq, eV_eq, lg_cmp_ge, lg_cmp_le, lg_cmp_gt, lg_cmp_lt, lg_cmp_eq, v_71_0, v_71_1, v_71_4, v_71_7, v_71_8, v_71_11, v_71_14, v_71_15, v_71_16, v_71_19, v_71_22, hX.o1, hX.o3, hX.o7, hX.o14, hX.o20, hX.r1_0, hX.r1_1, hX.r1_2, hX.r1_3, hX.r1_4, hX.r1_5, hX.r1_6, hX.r3_0, hX.r3_1, hX.r3_2, hX.r7_0, hX.r7_1, hX.r7_2, hX.r7_3, hX.r7_8, hX.r7_9, hX.r14_0, hX.r14_1, hX.r14_2, hX.r14_3, hX.r14_5, hX.r20_0, hX.r20_1, hX.r20_2, hX.r20_3, hX.r20_5, z10, z00, not_true_eq_false, not_false_eq_true, false_implies, true_implies, implies_true, true_and, and_true, true_or, or_true, false_and, and_false, false_or, or_false]; exact h a ha rfl
def tyX (σ : Sto) (a : Nat) (v : Int64) : Sto := sl (si (si σ 7 7 (gi σ 7 7 + if gi σ 13 a = 0 then 1 else 0)) 13 a 1) 12 a v
theorem X_attempt {d : Nat} {σ : Sto} {x : Int32} {v : Int64} {K : Int32 → Sto → Prop} (hX : XB σ) (h0 : (x < 0 ∨ 6 ≤ x) → K (-1) σ) (hB : ¬ (x < 0 ∨ 6 ≤ x) → (v < -10000000000 ∨ 10000000000 < v) → K (-2) σ) (h : ∀ a, a < 6 → x = nI a → ¬ v < -10000000000 → ¬ 10000000000 < v → K (gi σ 7 7 + if gi σ 13 a = 0 then 1 else 0) (tyX σ a v)) : CI (d + 1) 72 [aR (some 1), aI x, aL v] σ K := by
  refine CI_of ?_
  show Ev (d + 1, 0, 0) 72 0 [aR (some 1), aI x, aL v, aU] [] σ _
  simp only [z10, z00, not_true_eq_false, not_false_eq_true, false_implies, true_implies, implies_true, nI_1, Int32.add_zero, true_or, or_true, true_and, and_true, eI_eq, eL_eq, eR_eq, eV_eq, lg_cmp_ge, lg_cmp_le, lg_cmp_gt, lg_cmp_lt, lg_cmp_eq, v_72_0, v_72_1, v_72_4, v_72_7, v_72_8, v_72_9, v_72_10, v_72_13, v_72_14, v_72_17, v_72_18, v_72_21, v_72_22, v_72_25, v_72_27, v_72_28, v_72_29, v_72_32, v_72_33, v_72_34, v_72_37, v_72_38, v_72_41, v_72_44, hX.o1, hX.r1_2, hX.o7]
  refine X_isService (fun c => ?_) (fun a ha ea => ?_)
  · simp only [z10, z00, not_true_eq_false, not_false_eq_true, false_implies, true_implies, implies_true, nI_1, Int32.add_zero, true_or, or_true, true_and, and_true, eI_eq, eL_eq, eR_eq, eV_eq, lg_cmp_ge, lg_cmp_le, lg_cmp_gt, lg_cmp_lt, lg_cmp_eq, v_72_0, v_72_1, v_72_4, v_72_7, v_72_8, v_72_9, v_72_10, v_72_13, v_72_14, v_72_17, v_72_18, v_72_21, v_72_22, v_72_25, v_72_27, v_72_28, v_72_29, v_72_32, v_72_33, v_72_34, v_72_37, v_72_38, v_72_41, v_72_44, hX.o1, hX.o3, hX.o7, hX.o14, hX.o20, hX.r1_0, hX.r1_1, hX.r1_2, hX.r1_3, hX.r1_4, hX.r1_5, hX.r1_6, hX.r3_0, hX.r3_1, hX.r3_2, hX.r7_0, hX.r7_1, hX.r7_2, hX.r7_3, hX.r7_8, hX.r7_9, hX.r14_0, hX.r14_1, hX.r14_2, hX.r14_3, hX.r14_5, hX.r20_0, hX.r20_1, hX.r20_2, hX.r20_3, hX.r20_5, z10, z00, not_true_eq_false, not_false_eq_true, false_implies, true_implies, implies_true, true_and, and_true, true_or, or_true, false_and, and_false, false_or, or_false]; exact h0 c
  have hn : ¬ (x < 0 ∨ 6 ≤ x) := by
    subst ea
    refine fun q => ?_
    rcases q with q | q
    · exact absurd q (Int32.not_lt.mpr (nI_pos' (by omega)))
    · exact absurd q (nI_ge (a := a) (b := 6) (by omega) (by omega))
  simp only [z10, z00, not_true_eq_false, not_false_eq_true, false_implies, true_implies, implies_true, nI_1, Int32.add_zero, true_or, or_true, true_and, and_true, eI_eq, eL_eq, eR_eq, eV_eq, lg_cmp_ge, lg_cmp_le, lg_cmp_gt, lg_cmp_lt, lg_cmp_eq, v_72_0, v_72_1, v_72_4, v_72_7, v_72_8, v_72_9, v_72_10, v_72_13, v_72_14, v_72_17, v_72_18, v_72_21, v_72_22, v_72_25, v_72_27, v_72_28, v_72_29, v_72_32, v_72_33, v_72_34, v_72_37, v_72_38, v_72_41, v_72_44, hX.o1, hX.o3, hX.o7, hX.o14, hX.o20, hX.r1_0, hX.r1_1, hX.r1_2, hX.r1_3, hX.r1_4, hX.r1_5, hX.r1_6, hX.r3_0, hX.r3_1, hX.r3_2, hX.r7_0, hX.r7_1, hX.r7_2, hX.r7_3, hX.r7_8, hX.r7_9, hX.r14_0, hX.r14_1, hX.r14_2, hX.r14_3, hX.r14_5, hX.r20_0, hX.r20_1, hX.r20_2, hX.r20_3, hX.r20_5, z10, z00, not_true_eq_false, not_false_eq_true, false_implies, true_implies, implies_true, true_and, and_true, true_or, or_true, false_and, and_false, false_or, or_false]
  refine ⟨fun c => hB hn (Or.inl c), fun c => ⟨fun c2 => ?_, fun c2 => hB hn (Or.inr (Int64.not_le.mp c2))⟩⟩
  subst ea
  refine X_tryOne hX ha ?_
  have hX' : XB (tyX σ a v) := XB_of (σ := σ) (Nat.le_refl _) (fun _ _ _ _ => rfl) hX
  have e7 : gi (tyX σ a v) 7 7 = gi σ 7 7 + if gi σ 13 a = 0 then 1 else 0 := by
    unfold tyX
    rw [gi_sl_r, gi_si_k, if_neg (by omega), gi_si_k, if_pos ⟨rfl, rfl⟩]
  show okO (tyX σ a v) 1 5 ∧ _
  have := h a ha rfl c (Int64.not_lt.mpr c2)
  simp only [hX'.o1, true_and]
  simp only [show sl (si (si σ 7 7 (gi σ 7 7 + if gi σ 13 a = 0 then 1 else 0)) 13 a 1) 12 a v = tyX σ a v from rfl, hX'.r1_2, z10, z00, not_true_eq_false, not_false_eq_true, false_implies, true_implies, implies_true, nI_1, Int32.add_zero, true_or, or_true, true_and, and_true, eI_eq, eL_eq, eR_eq, eV_eq, lg_cmp_ge, lg_cmp_le, lg_cmp_gt, lg_cmp_lt, lg_cmp_eq, v_72_0, v_72_1, v_72_4, v_72_7, v_72_8, v_72_9, v_72_10, v_72_13, v_72_14, v_72_17, v_72_18, v_72_21, v_72_22, v_72_25, v_72_27, v_72_28, v_72_29, v_72_32, v_72_33, v_72_34, v_72_37, v_72_38, v_72_41, v_72_44, hX'.o7, e7]
  exact this
theorem X_check {d : Nat} {σ : Sto} {K : Int32 → Sto → Prop} {L : Nat → List Nat} (hI : XI σ L) (h : ∀ σ1 σ2, XQ σ σ1 → XI σ1 L → scY σ1 σ2 → XI σ2 L → gi σ2 7 7 = 0 → (∀ j, j < 6 → gl σ2 12 j = 0 ∧ gi σ2 13 j = 0) → K (ofN (fnd (ckB (bdX σ L) (gl σ 12)) 0 36)) σ2) : CI (d + 10) 73 [aR (some 1)] σ K := by
  refine CI_of ?_
  show Ev (d + 10, 0, 0) 73 0 [aR (some 1), aU] [] σ _
  simp only [z10, z00, not_true_eq_false, not_false_eq_true, false_implies, true_implies, implies_true, nI_1, Int32.add_zero, true_or, or_true, true_and, and_true, eI_eq, eL_eq, eR_eq, eV_eq, lg_cmp_ge, lg_cmp_le, lg_cmp_gt, lg_cmp_lt, lg_cmp_eq, v_73_0, v_73_1, v_73_4, v_73_5, v_73_8, v_73_11, v_73_12, v_73_13, v_73_16, v_73_19, v_73_20, hI.xb.o1]
  refine X_learnPairs hI (fun σ' hq hI' hK => ?_)
  simp only [hI'.xb.o1, hI'.xb.r1_2, hI'.xb.o7, z10, z00, not_true_eq_false, not_false_eq_true, false_implies, true_implies, implies_true, nI_1, Int32.add_zero, true_or, or_true, true_and, and_true, eI_eq, eL_eq, eR_eq, eV_eq, lg_cmp_ge, lg_cmp_le, lg_cmp_gt, lg_cmp_lt, lg_cmp_eq, v_73_0, v_73_1, v_73_4, v_73_5, v_73_8, v_73_11, v_73_12, v_73_13, v_73_16, v_73_19, v_73_20, hI.xb.o1, hI.xb.o3, hI.xb.o7, hI.xb.o14, hI.xb.o20, hI.xb.r1_0, hI.xb.r1_1, hI.xb.r1_2, hI.xb.r1_3, hI.xb.r1_4, hI.xb.r1_5, hI.xb.r1_6, hI.xb.r3_0, hI.xb.r3_1, hI.xb.r3_2, hI.xb.r7_0, hI.xb.r7_1, hI.xb.r7_2, hI.xb.r7_3, hI.xb.r7_8, hI.xb.r7_9, hI.xb.r14_0, hI.xb.r14_1, hI.xb.r14_2, hI.xb.r14_3, hI.xb.r14_5, hI.xb.r20_0, hI.xb.r20_1, hI.xb.r20_2, hI.xb.r20_3, hI.xb.r20_5, z10, z00, not_true_eq_false, not_false_eq_true, false_implies, true_implies, implies_true, true_and, and_true, true_or, or_true, false_and, and_false, false_or, or_false]
  have e12 : gl σ' 12 = gl σ 12 := hq.2.2.2.2.2 12 (by decide) (by decide) (by decide) (by decide) (by decide)
  refine X_firstBroken hI'.xb hK.1 ?_
  simp only [hI'.xb.o1, hI'.xb.r1_2, hI'.xb.o7, z10, z00, not_true_eq_false, not_false_eq_true, false_implies, true_implies, implies_true, nI_1, Int32.add_zero, true_or, or_true, true_and, and_true, eI_eq, eL_eq, eR_eq, eV_eq, lg_cmp_ge, lg_cmp_le, lg_cmp_gt, lg_cmp_lt, lg_cmp_eq, v_73_0, v_73_1, v_73_4, v_73_5, v_73_8, v_73_11, v_73_12, v_73_13, v_73_16, v_73_19, v_73_20]
  refine X_tryNone hI'.xb (fun σ2 g1 g2 g3 => ?_)
  rw [e12]
  refine h σ' σ2 hq hI' g1 (hI'.of g1.1 g1.2.1 (fun a ha => ⟨funext fun k => g1.2.2.1 a k (by omega) (by omega), g1.2.2.2 a (by omega)⟩) (fun u hu => ⟨g1.2.2.1 _ _ (by omega) (by omega), g1.2.2.1 _ _ (by omega) (by omega)⟩) ?_) g2 g3
  rw [hq.bd (fun t ht => hI.g ht), g1.2.2.1 7 6 (by decide) (by decide)]
  rcases hI'.2.2.2 with q | q
  · exact Or.inl q
  · exact Or.inr ⟨q.1, KN_of (g1.2.2.2 8 (by decide)) (g1.2.2.2 9 (by decide)) (g1.2.2.1 7 4 (by decide) (by decide)) (g1.2.2.1 7 5 (by decide) (by decide)) (funext fun k => g1.2.2.1 11 k (by decide) (by omega)) hK⟩
