/-! the class: ways asked -/
theorem XQ.nx {σ σ' : Sto} (h : XQ σ σ') {l : List Nat} (hl : ∀ a, a ∈ l → 103 ≤ a) {mv : Nat → Int64} {x : Nat} (hx : 103 ≤ x) {c f : Int64} : nxX σ' l mv x c f = nxX σ l mv x c f := by
  unfold nxX
  rw [h.2.2.2.1 x 0 hx (by decide)]
  refine bsL_congr (fun a => 103 ≤ a) hl (fun a e => by cases e) (fun a ha => ?_) (fun a b ha hb => ?_)
  · unfold elX kiX
    rw [h.u hl, h.rw ha, h.2.2.2.1 a 1 ha (by decide)]
  · unfold btX
    rw [h.rw ha, h.rw hb]
theorem XQ.wk {σ σ' : Sto} (h : XQ σ σ') {l : List Nat} (hl : ∀ a, a ∈ l → 103 ≤ a) {mv : Nat → Int64} {n x : Nat} (hx : x ∈ l) : wkX σ' l mv n x = wkX σ l mv n x := by
  unfold wkX
  rw [h.rw (hl x hx)]
  exact wkO_congr (fun a => a ∈ l) (fun x c f hx => h.nx hl (hl x hx)) (fun x hx => by rw [h.rw (hl x hx)]) (fun x hx => by rw [h.rw (hl x hx)]) (fun x c f k _ hk => (nxX_mem hk).1) n x _ _ hx
theorem wkX_mem {σ : Sto} {l : List Nat} {mv : Nat → Int64} {n x : Nat} {lw : List (Nat × Int64 × Int64)} (hx : x ∈ l) (h : wkX σ l mv n x = some lw) : ∀ q, q ∈ lw → q.1 ∈ l := wkO_in (P := fun a => a ∈ l) (fun x c f k _ hk => (nxX_mem hk).1) n x _ _ lw hx h
theorem XQ.pt {σ σ' : Sto} (h : XQ σ σ') {lw : List (Nat × Int64 × Int64)} (hl : ∀ q, q ∈ lw → 103 ≤ q.1) : lw.map (ptX0 σ') = lw.map (ptX0 σ) := List.map_congr_left (fun q hq => by
  unfold ptX0
  rw [h.rw (hl q hq), h.2.2.2.1 q.1 0 (hl q hq) (by decide)])
theorem XI.f {σ σ' : Sto} {L : Nat → List Nat} {w : Nat} (hw : w = 14 ∨ w = 20) (hI : XI σ L) (h : scF w σ σ') : XI σ' L := by
  refine hI.of h.1 h.2.1 (fun a ha => ⟨funext fun k => h.2.2.1 a k (by omega) (by omega) (by omega), h.2.2.2 a (by omega) (by omega) (by omega)⟩) (fun u hu => ⟨h.2.2.1 _ _ (by omega) (by omega) (by omega), h.2.2.1 _ _ (by omega) (by omega) (by omega)⟩) ?_
  rw [h.2.2.1 7 6 (by omega) (by omega) (by omega)]
  rcases hI.2.2.2 with q | q
  · exact Or.inl q
  · exact Or.inr ⟨q.1, KN_of (h.2.2.2 8 (by omega) (by omega) (by omega)) (h.2.2.2 9 (by omega) (by omega) (by omega)) (h.2.2.1 7 4 (by omega) (by omega) (by omega)) (h.2.2.1 7 5 (by omega) (by omega) (by omega)) (funext fun k => h.2.2.1 11 k (by omega) (by omega) (by omega)) q.2⟩
/-- every way ends, and isn't long -/
def WK (σ : Sto) (L : Nat → List Nat) : Prop := ∀ t, t < 20 → ∀ a, a ∈ L t → ∃ lw, wkX σ (L t) (gl σ 10) 30 a = some lw ∧ lw.length ≤ 60
theorem XQ.mv {σ σ' : Sto} (h : XQ σ σ') : gl σ' 10 = gl σ 10 := h.2.2.2.2.2 10 (by decide) (by decide) (by decide) (by decide) (by decide)
theorem X_way {d : Nat} {σ : Sto} {x i : Int32} {K : Int32 → Sto → Prop} {L : Nat → List Nat} (hI : XI σ L) (hm : mvB (gl σ 10)) (hwk : WK σ L) (h0 : (x < 0 ∨ 20 ≤ x) → K (-1) σ) (h : ∀ t, t < 20 → x = nI t → (atL (roX σ (L t)) i (L t) = none → ∀ σ', XQ σ σ' → XI σ' L → K (-1) σ') ∧ (∀ a lw, atL (roX σ (L t)) i (L t) = some a → a ∈ L t → wkX σ (L t) (gl σ 10) 30 a = some lw → lw.length ≤ 60 → ∀ σ1 σ2, XQ σ σ1 → XI σ1 L → scF 14 σ1 σ2 → XI σ2 L → WY σ2 14 (lw.map (ptX0 σ)) → K (nI lw.length) σ2)) : CI (d + 35) 74 [aR (some 1), aI x, aI i] σ K := by
  refine CI_of ?_
  show Ev (d + 35, 0, 0) 74 0 [aR (some 1), aI x, aI i, aU, aU] [] σ _
  simp only [z10, z00, not_true_eq_false, not_false_eq_true, false_implies, true_implies, implies_true, nI_1, Int32.add_zero, true_or, or_true, true_and, and_true, eI_eq, eL_eq, eR_eq, eV_eq, lg_cmp_ge, lg_cmp_le, lg_cmp_gt, lg_cmp_lt, lg_cmp_eq, v_74_0, v_74_1, v_74_2, v_74_5, v_74_6, v_74_7, v_74_10, v_74_11, v_74_14, v_74_15, v_74_16, v_74_19, v_74_21, v_74_22, v_74_25, v_74_27, v_74_30, v_74_31, v_74_32, v_74_33, v_74_36, v_74_37, v_74_39, v_74_40, v_74_43, v_74_46, v_74_49, v_74_50, v_74_53, v_74_56, hI.xb.o1, hI.xb.o3, hI.xb.o7, hI.xb.o14, hI.xb.o20, hI.xb.r1_0, hI.xb.r1_1, hI.xb.r1_2, hI.xb.r1_3, hI.xb.r1_4, hI.xb.r1_5, hI.xb.r1_6, hI.xb.r3_0, hI.xb.r3_1, hI.xb.r3_2, hI.xb.r7_0, hI.xb.r7_1, hI.xb.r7_2, hI.xb.r7_3, hI.xb.r7_8, hI.xb.r7_9, hI.xb.r14_0, hI.xb.r14_1, hI.xb.r14_2, hI.xb.r14_3, hI.xb.r14_5, hI.xb.r20_0, hI.xb.r20_1, hI.xb.r20_2, hI.xb.r20_3, hI.xb.r20_5]
  refine X_traceAt hI.xb (fun c => ?_) (fun t ht e => ?_)
  · simp only [reduceCtorEq, z10, z00, not_true_eq_false, not_false_eq_true, false_implies, true_implies, implies_true, nI_1, Int32.add_zero, true_or, or_true, true_and, and_true, eI_eq, eL_eq, eR_eq, eV_eq, lg_cmp_ge, lg_cmp_le, lg_cmp_gt, lg_cmp_lt, lg_cmp_eq, v_74_0, v_74_1, v_74_2, v_74_5, v_74_6, v_74_7, v_74_10, v_74_11, v_74_14, v_74_15, v_74_16, v_74_19, v_74_21, v_74_22, v_74_25, v_74_27, v_74_30, v_74_31, v_74_32, v_74_33, v_74_36, v_74_37, v_74_39, v_74_40, v_74_43, v_74_46, v_74_49, v_74_50, v_74_53, v_74_56, hI.xb.o1, hI.xb.o3, hI.xb.o7, hI.xb.o14, hI.xb.o20, hI.xb.r1_0, hI.xb.r1_1, hI.xb.r1_2, hI.xb.r1_3, hI.xb.r1_4, hI.xb.r1_5, hI.xb.r1_6, hI.xb.r3_0, hI.xb.r3_1, hI.xb.r3_2, hI.xb.r7_0, hI.xb.r7_1, hI.xb.r7_2, hI.xb.r7_3, hI.xb.r7_8, hI.xb.r7_9, hI.xb.r14_0, hI.xb.r14_1, hI.xb.r14_2, hI.xb.r14_3, hI.xb.r14_5, hI.xb.r20_0, hI.xb.r20_1, hI.xb.r20_2, hI.xb.r20_3, hI.xb.r20_5, z10, z00, not_true_eq_false, not_false_eq_true, false_implies, true_implies, implies_true, true_and, and_true, true_or, or_true, false_and, and_false, false_or, or_false]
    exact h0 c
  obtain ⟨hA, hB⟩ := h t ht e
  have hg := hI.g ht
  simp only [reduceCtorEq, z10, z00, not_true_eq_false, not_false_eq_true, false_implies, true_implies, implies_true, nI_1, Int32.add_zero, true_or, or_true, true_and, and_true, eI_eq, eL_eq, eR_eq, eV_eq, lg_cmp_ge, lg_cmp_le, lg_cmp_gt, lg_cmp_lt, lg_cmp_eq, v_74_0, v_74_1, v_74_2, v_74_5, v_74_6, v_74_7, v_74_10, v_74_11, v_74_14, v_74_15, v_74_16, v_74_19, v_74_21, v_74_22, v_74_25, v_74_27, v_74_30, v_74_31, v_74_32, v_74_33, v_74_36, v_74_37, v_74_39, v_74_40, v_74_43, v_74_46, v_74_49, v_74_50, v_74_53, v_74_56, hI.xb.o1, hI.xb.o3, hI.xb.o7, hI.xb.o14, hI.xb.o20, hI.xb.r1_0, hI.xb.r1_1, hI.xb.r1_2, hI.xb.r1_3, hI.xb.r1_4, hI.xb.r1_5, hI.xb.r1_6, hI.xb.r3_0, hI.xb.r3_1, hI.xb.r3_2, hI.xb.r7_0, hI.xb.r7_1, hI.xb.r7_2, hI.xb.r7_3, hI.xb.r7_8, hI.xb.r7_9, hI.xb.r14_0, hI.xb.r14_1, hI.xb.r14_2, hI.xb.r14_3, hI.xb.r14_5, hI.xb.r20_0, hI.xb.r20_1, hI.xb.r20_2, hI.xb.r20_3, hI.xb.r20_5, hI.xb.oT ht, z10, z00, not_true_eq_false, not_false_eq_true, false_implies, true_implies, implies_true, true_and, and_true, true_or, or_true, false_and, and_false, false_or, or_false]
  refine X_rootAt (hI.t ht) (fun σ1 g1 g2 g3 => ?_)
  have hq := XQ.s ht hg g1
  have hI1 := hI.set ht g1 g2
  rw [atL_congr (hq.ro hg)]
  cases hr : atL (roX σ (L t)) i (L t) with
  | none =>
    simp only [reduceCtorEq, z10, z00, not_true_eq_false, not_false_eq_true, false_implies, true_implies, implies_true, nI_1, Int32.add_zero, true_or, or_true, true_and, and_true, eI_eq, eL_eq, eR_eq, eV_eq, lg_cmp_ge, lg_cmp_le, lg_cmp_gt, lg_cmp_lt, lg_cmp_eq, v_74_0, v_74_1, v_74_2, v_74_5, v_74_6, v_74_7, v_74_10, v_74_11, v_74_14, v_74_15, v_74_16, v_74_19, v_74_21, v_74_22, v_74_25, v_74_27, v_74_30, v_74_31, v_74_32, v_74_33, v_74_36, v_74_37, v_74_39, v_74_40, v_74_43, v_74_46, v_74_49, v_74_50, v_74_53, v_74_56, hI1.xb.o1, hI1.xb.o3, hI1.xb.o7, hI1.xb.o14, hI1.xb.o20, hI1.xb.r1_0, hI1.xb.r1_1, hI1.xb.r1_2, hI1.xb.r1_3, hI1.xb.r1_4, hI1.xb.r1_5, hI1.xb.r1_6, hI1.xb.r3_0, hI1.xb.r3_1, hI1.xb.r3_2, hI1.xb.r7_0, hI1.xb.r7_1, hI1.xb.r7_2, hI1.xb.r7_3, hI1.xb.r7_8, hI1.xb.r7_9, hI1.xb.r14_0, hI1.xb.r14_1, hI1.xb.r14_2, hI1.xb.r14_3, hI1.xb.r14_5, hI1.xb.r20_0, hI1.xb.r20_1, hI1.xb.r20_2, hI1.xb.r20_3, hI1.xb.r20_5, z10, z00, not_true_eq_false, not_false_eq_true, false_implies, true_implies, implies_true, true_and, and_true, true_or, or_true, false_and, and_false, false_or, or_false]
    exact hA hr σ1 hq hI1
  | some a =>
    have ha := atL_mem hr
    obtain ⟨lw, hw1, hw2⟩ := hwk t ht a ha
    simp only [reduceCtorEq, z10, z00, not_true_eq_false, not_false_eq_true, false_implies, true_implies, implies_true, nI_1, Int32.add_zero, true_or, or_true, true_and, and_true, eI_eq, eL_eq, eR_eq, eV_eq, lg_cmp_ge, lg_cmp_le, lg_cmp_gt, lg_cmp_lt, lg_cmp_eq, v_74_0, v_74_1, v_74_2, v_74_5, v_74_6, v_74_7, v_74_10, v_74_11, v_74_14, v_74_15, v_74_16, v_74_19, v_74_21, v_74_22, v_74_25, v_74_27, v_74_30, v_74_31, v_74_32, v_74_33, v_74_36, v_74_37, v_74_39, v_74_40, v_74_43, v_74_46, v_74_49, v_74_50, v_74_53, v_74_56, hI1.xb.o1, hI1.xb.o3, hI1.xb.o7, hI1.xb.o14, hI1.xb.o20, hI1.xb.r1_0, hI1.xb.r1_1, hI1.xb.r1_2, hI1.xb.r1_3, hI1.xb.r1_4, hI1.xb.r1_5, hI1.xb.r1_6, hI1.xb.r3_0, hI1.xb.r3_1, hI1.xb.r3_2, hI1.xb.r7_0, hI1.xb.r7_1, hI1.xb.r7_2, hI1.xb.r7_3, hI1.xb.r7_8, hI1.xb.r7_9, hI1.xb.r14_0, hI1.xb.r14_1, hI1.xb.r14_2, hI1.xb.r14_3, hI1.xb.r14_5, hI1.xb.r20_0, hI1.xb.r20_1, hI1.xb.r20_2, hI1.xb.r20_3, hI1.xb.r20_5, z10, z00, not_true_eq_false, not_false_eq_true, false_implies, true_implies, implies_true, true_and, and_true, true_or, or_true, false_and, and_false, false_or, or_false]
    refine X_follow (w := 14) (Or.inl rfl) (by omega) hI1.xb (by rw [hq.mv]; exact hm) g2 g3 (hI1.re ht) ha (by rw [hq.mv, hq.wk hg ha]; exact hw1) hw2 (fun σ2 f1 f2 => ?_)
    have hI2 := hI1.f (Or.inl rfl) f1
    rw [hq.pt (fun q hq => hg _ (wkX_mem ha hw1 q hq))] at f2
    simp only [reduceCtorEq, z10, z00, not_true_eq_false, not_false_eq_true, false_implies, true_implies, implies_true, nI_1, Int32.add_zero, true_or, or_true, true_and, and_true, eI_eq, eL_eq, eR_eq, eV_eq, lg_cmp_ge, lg_cmp_le, lg_cmp_gt, lg_cmp_lt, lg_cmp_eq, v_74_0, v_74_1, v_74_2, v_74_5, v_74_6, v_74_7, v_74_10, v_74_11, v_74_14, v_74_15, v_74_16, v_74_19, v_74_21, v_74_22, v_74_25, v_74_27, v_74_30, v_74_31, v_74_32, v_74_33, v_74_36, v_74_37, v_74_39, v_74_40, v_74_43, v_74_46, v_74_49, v_74_50, v_74_53, v_74_56, hI2.xb.o1, hI2.xb.o3, hI2.xb.o7, hI2.xb.o14, hI2.xb.o20, hI2.xb.r1_0, hI2.xb.r1_1, hI2.xb.r1_2, hI2.xb.r1_3, hI2.xb.r1_4, hI2.xb.r1_5, hI2.xb.r1_6, hI2.xb.r3_0, hI2.xb.r3_1, hI2.xb.r3_2, hI2.xb.r7_0, hI2.xb.r7_1, hI2.xb.r7_2, hI2.xb.r7_3, hI2.xb.r7_8, hI2.xb.r7_9, hI2.xb.r14_0, hI2.xb.r14_1, hI2.xb.r14_2, hI2.xb.r14_3, hI2.xb.r14_5, hI2.xb.r20_0, hI2.xb.r20_1, hI2.xb.r20_2, hI2.xb.r20_3, hI2.xb.r20_5, f2.1, List.length_map, z10, z00, not_true_eq_false, not_false_eq_true, false_implies, true_implies, implies_true, true_and, and_true, true_or, or_true, false_and, and_false, false_or, or_false]
    exact hB a lw hr ha hw1 hw2 σ1 σ2 hq hI1 f1 hI2 f2
theorem X_share {d : Nat} {σ : Sto} {x n : Int32} {K : Int64 → Sto → Prop} {L : Nat → List Nat} (hI : XI σ L) (hm : mvB (gl σ 10)) (hwk : WK σ L) (h0 : (x < 0 ∨ 20 ≤ x) → K (-9223372036854775808) σ) (h : ∀ t, t < 20 → x = nI t → ((L t).find? (nuX σ n) = none → ∀ σ', XQ σ σ' → XI σ' L → K (-9223372036854775808) σ') ∧ (∀ a, (L t).find? (nuX σ n) = some a → a ∈ L t → (roI (uX σ (L t)) a = none → ∀ σ', XQ σ σ' → XI σ' L → K (-9223372036854775808) σ') ∧ (∀ r lw, roI (uX σ (L t)) a = some r → r ∈ L t → wkX σ (L t) (gl σ 10) 30 r = some lw → lw.length ≤ 60 → ∀ σ', XQ σ σ' → XI σ' L → K (lnS n (lw.map (ptX0 σ)) 0) σ'))) : CL (d + 35) 76 [aR (some 1), aI x, aI n] σ K := by
  refine CL_of ?_
  show Ev (d + 35, 0, 0) 76 0 [aR (some 1), aI x, aI n, aU, aU] [] σ _
  simp only [z10, z00, not_true_eq_false, not_false_eq_true, false_implies, true_implies, implies_true, nI_1, Int32.add_zero, true_or, or_true, true_and, and_true, eI_eq, eL_eq, eR_eq, eV_eq, lg_cmp_ge, lg_cmp_le, lg_cmp_gt, lg_cmp_lt, lg_cmp_eq, v_76_0, v_76_1, v_76_2, v_76_5, v_76_6, v_76_7, v_76_8, v_76_11, v_76_13, v_76_14, v_76_17, v_76_19, v_76_22, v_76_24, v_76_27, v_76_30, v_76_33, v_76_34, v_76_35, v_76_38, v_76_39, v_76_41, v_76_44, v_76_45, v_76_48, v_76_51, v_76_54, v_76_55, v_76_58, v_76_59, v_76_62, hI.xb.o1, hI.xb.o3, hI.xb.o7, hI.xb.o14, hI.xb.o20, hI.xb.r1_0, hI.xb.r1_1, hI.xb.r1_2, hI.xb.r1_3, hI.xb.r1_4, hI.xb.r1_5, hI.xb.r1_6, hI.xb.r3_0, hI.xb.r3_1, hI.xb.r3_2, hI.xb.r7_0, hI.xb.r7_1, hI.xb.r7_2, hI.xb.r7_3, hI.xb.r7_8, hI.xb.r7_9, hI.xb.r14_0, hI.xb.r14_1, hI.xb.r14_2, hI.xb.r14_3, hI.xb.r14_5, hI.xb.r20_0, hI.xb.r20_1, hI.xb.r20_2, hI.xb.r20_3, hI.xb.r20_5]
  refine X_traceAt hI.xb (fun c => ?_) (fun t ht e => ?_)
  · refine X_spanAt0 ?_
    simp only [reduceCtorEq, z10, z00, not_true_eq_false, not_false_eq_true, false_implies, true_implies, implies_true, nI_1, Int32.add_zero, true_or, or_true, true_and, and_true, eI_eq, eL_eq, eR_eq, eV_eq, lg_cmp_ge, lg_cmp_le, lg_cmp_gt, lg_cmp_lt, lg_cmp_eq, v_76_0, v_76_1, v_76_2, v_76_5, v_76_6, v_76_7, v_76_8, v_76_11, v_76_13, v_76_14, v_76_17, v_76_19, v_76_22, v_76_24, v_76_27, v_76_30, v_76_33, v_76_34, v_76_35, v_76_38, v_76_39, v_76_41, v_76_44, v_76_45, v_76_48, v_76_51, v_76_54, v_76_55, v_76_58, v_76_59, v_76_62, hI.xb.o1, hI.xb.o3, hI.xb.o7, hI.xb.o14, hI.xb.o20, hI.xb.r1_0, hI.xb.r1_1, hI.xb.r1_2, hI.xb.r1_3, hI.xb.r1_4, hI.xb.r1_5, hI.xb.r1_6, hI.xb.r3_0, hI.xb.r3_1, hI.xb.r3_2, hI.xb.r7_0, hI.xb.r7_1, hI.xb.r7_2, hI.xb.r7_3, hI.xb.r7_8, hI.xb.r7_9, hI.xb.r14_0, hI.xb.r14_1, hI.xb.r14_2, hI.xb.r14_3, hI.xb.r14_5, hI.xb.r20_0, hI.xb.r20_1, hI.xb.r20_2, hI.xb.r20_3, hI.xb.r20_5, z10, z00, not_true_eq_false, not_false_eq_true, false_implies, true_implies, implies_true, true_and, and_true, true_or, or_true, false_and, and_false, false_or, or_false]
    exact h0 c
  obtain ⟨hA, hB⟩ := h t ht e
  have hg := hI.g ht
  refine X_spanAt hI ht (fun σ1 hq hI1 hS => ?_)
  cases hf : (L t).find? (nuX σ n) with
  | none =>
    simp only [reduceCtorEq, z10, z00, not_true_eq_false, not_false_eq_true, false_implies, true_implies, implies_true, nI_1, Int32.add_zero, true_or, or_true, true_and, and_true, eI_eq, eL_eq, eR_eq, eV_eq, lg_cmp_ge, lg_cmp_le, lg_cmp_gt, lg_cmp_lt, lg_cmp_eq, v_76_0, v_76_1, v_76_2, v_76_5, v_76_6, v_76_7, v_76_8, v_76_11, v_76_13, v_76_14, v_76_17, v_76_19, v_76_22, v_76_24, v_76_27, v_76_30, v_76_33, v_76_34, v_76_35, v_76_38, v_76_39, v_76_41, v_76_44, v_76_45, v_76_48, v_76_51, v_76_54, v_76_55, v_76_58, v_76_59, v_76_62, hI1.xb.o1, hI1.xb.o3, hI1.xb.o7, hI1.xb.o14, hI1.xb.o20, hI1.xb.r1_0, hI1.xb.r1_1, hI1.xb.r1_2, hI1.xb.r1_3, hI1.xb.r1_4, hI1.xb.r1_5, hI1.xb.r1_6, hI1.xb.r3_0, hI1.xb.r3_1, hI1.xb.r3_2, hI1.xb.r7_0, hI1.xb.r7_1, hI1.xb.r7_2, hI1.xb.r7_3, hI1.xb.r7_8, hI1.xb.r7_9, hI1.xb.r14_0, hI1.xb.r14_1, hI1.xb.r14_2, hI1.xb.r14_3, hI1.xb.r14_5, hI1.xb.r20_0, hI1.xb.r20_1, hI1.xb.r20_2, hI1.xb.r20_3, hI1.xb.r20_5, z10, z00, not_true_eq_false, not_false_eq_true, false_implies, true_implies, implies_true, true_and, and_true, true_or, or_true, false_and, and_false, false_or, or_false]
    exact hA hf σ1 hq hI1
  | some a =>
    have ha : a ∈ L t := List.mem_of_find?_eq_some hf
    obtain ⟨hC, hD⟩ := hB a hf ha
    have haO := (hI1.t ht).ok a ha
    have s2 := (hS a ha).2.1
    rw [hq.u hg] at s2
    simp only [reduceCtorEq, z10, z00, not_true_eq_false, not_false_eq_true, false_implies, true_implies, implies_true, nI_1, Int32.add_zero, true_or, or_true, true_and, and_true, eI_eq, eL_eq, eR_eq, eV_eq, lg_cmp_ge, lg_cmp_le, lg_cmp_gt, lg_cmp_lt, lg_cmp_eq, v_76_0, v_76_1, v_76_2, v_76_5, v_76_6, v_76_7, v_76_8, v_76_11, v_76_13, v_76_14, v_76_17, v_76_19, v_76_22, v_76_24, v_76_27, v_76_30, v_76_33, v_76_34, v_76_35, v_76_38, v_76_39, v_76_41, v_76_44, v_76_45, v_76_48, v_76_51, v_76_54, v_76_55, v_76_58, v_76_59, v_76_62, hI1.xb.o1, hI1.xb.o3, hI1.xb.o7, hI1.xb.o14, hI1.xb.o20, hI1.xb.r1_0, hI1.xb.r1_1, hI1.xb.r1_2, hI1.xb.r1_3, hI1.xb.r1_4, hI1.xb.r1_5, hI1.xb.r1_6, hI1.xb.r3_0, hI1.xb.r3_1, hI1.xb.r3_2, hI1.xb.r7_0, hI1.xb.r7_1, hI1.xb.r7_2, hI1.xb.r7_3, hI1.xb.r7_8, hI1.xb.r7_9, hI1.xb.r14_0, hI1.xb.r14_1, hI1.xb.r14_2, hI1.xb.r14_3, hI1.xb.r14_5, hI1.xb.r20_0, hI1.xb.r20_1, hI1.xb.r20_2, hI1.xb.r20_3, hI1.xb.r20_5, haO, s2, z10, z00, not_true_eq_false, not_false_eq_true, false_implies, true_implies, implies_true, true_and, and_true, true_or, or_true, false_and, and_false, false_or, or_false]
    cases hr : roI (uX σ (L t)) a with
    | none =>
      simp only [reduceCtorEq, z10, z00, not_true_eq_false, not_false_eq_true, false_implies, true_implies, implies_true, nI_1, Int32.add_zero, true_or, or_true, true_and, and_true, eI_eq, eL_eq, eR_eq, eV_eq, lg_cmp_ge, lg_cmp_le, lg_cmp_gt, lg_cmp_lt, lg_cmp_eq, v_76_0, v_76_1, v_76_2, v_76_5, v_76_6, v_76_7, v_76_8, v_76_11, v_76_13, v_76_14, v_76_17, v_76_19, v_76_22, v_76_24, v_76_27, v_76_30, v_76_33, v_76_34, v_76_35, v_76_38, v_76_39, v_76_41, v_76_44, v_76_45, v_76_48, v_76_51, v_76_54, v_76_55, v_76_58, v_76_59, v_76_62, hI1.xb.o1, hI1.xb.o3, hI1.xb.o7, hI1.xb.o14, hI1.xb.o20, hI1.xb.r1_0, hI1.xb.r1_1, hI1.xb.r1_2, hI1.xb.r1_3, hI1.xb.r1_4, hI1.xb.r1_5, hI1.xb.r1_6, hI1.xb.r3_0, hI1.xb.r3_1, hI1.xb.r3_2, hI1.xb.r7_0, hI1.xb.r7_1, hI1.xb.r7_2, hI1.xb.r7_3, hI1.xb.r7_8, hI1.xb.r7_9, hI1.xb.r14_0, hI1.xb.r14_1, hI1.xb.r14_2, hI1.xb.r14_3, hI1.xb.r14_5, hI1.xb.r20_0, hI1.xb.r20_1, hI1.xb.r20_2, hI1.xb.r20_3, hI1.xb.r20_5, z10, z00, not_true_eq_false, not_false_eq_true, false_implies, true_implies, implies_true, true_and, and_true, true_or, or_true, false_and, and_false, false_or, or_false]
      exact hC hr σ1 hq hI1
    | some r =>
      have hrm := roX_mem ha hr
      obtain ⟨lw, hw1, hw2⟩ := hwk t ht r hrm
      simp only [reduceCtorEq, z10, z00, not_true_eq_false, not_false_eq_true, false_implies, true_implies, implies_true, nI_1, Int32.add_zero, true_or, or_true, true_and, and_true, eI_eq, eL_eq, eR_eq, eV_eq, lg_cmp_ge, lg_cmp_le, lg_cmp_gt, lg_cmp_lt, lg_cmp_eq, v_76_0, v_76_1, v_76_2, v_76_5, v_76_6, v_76_7, v_76_8, v_76_11, v_76_13, v_76_14, v_76_17, v_76_19, v_76_22, v_76_24, v_76_27, v_76_30, v_76_33, v_76_34, v_76_35, v_76_38, v_76_39, v_76_41, v_76_44, v_76_45, v_76_48, v_76_51, v_76_54, v_76_55, v_76_58, v_76_59, v_76_62, hI1.xb.o1, hI1.xb.o3, hI1.xb.o7, hI1.xb.o14, hI1.xb.o20, hI1.xb.r1_0, hI1.xb.r1_1, hI1.xb.r1_2, hI1.xb.r1_3, hI1.xb.r1_4, hI1.xb.r1_5, hI1.xb.r1_6, hI1.xb.r3_0, hI1.xb.r3_1, hI1.xb.r3_2, hI1.xb.r7_0, hI1.xb.r7_1, hI1.xb.r7_2, hI1.xb.r7_3, hI1.xb.r7_8, hI1.xb.r7_9, hI1.xb.r14_0, hI1.xb.r14_1, hI1.xb.r14_2, hI1.xb.r14_3, hI1.xb.r14_5, hI1.xb.r20_0, hI1.xb.r20_1, hI1.xb.r20_2, hI1.xb.r20_3, hI1.xb.r20_5, haO, s2, hr, z10, z00, not_true_eq_false, not_false_eq_true, false_implies, true_implies, implies_true, true_and, and_true, true_or, or_true, false_and, and_false, false_or, or_false]
      refine X_follow (w := 20) (Or.inr rfl) (by omega) hI1.xb (by rw [hq.mv]; exact hm) (hI1.t ht) hS (hI1.re ht) hrm (by rw [hq.mv, hq.wk hg hrm]; exact hw1) hw2 (fun σ2 f1 f2 => ?_)
      have hI2 := hI1.f (Or.inr rfl) f1
      rw [hq.pt (fun q hq => hg _ (wkX_mem hrm hw1 q hq))] at f2
      simp only [reduceCtorEq, z10, z00, not_true_eq_false, not_false_eq_true, false_implies, true_implies, implies_true, nI_1, Int32.add_zero, true_or, or_true, true_and, and_true, eI_eq, eL_eq, eR_eq, eV_eq, lg_cmp_ge, lg_cmp_le, lg_cmp_gt, lg_cmp_lt, lg_cmp_eq, v_76_0, v_76_1, v_76_2, v_76_5, v_76_6, v_76_7, v_76_8, v_76_11, v_76_13, v_76_14, v_76_17, v_76_19, v_76_22, v_76_24, v_76_27, v_76_30, v_76_33, v_76_34, v_76_35, v_76_38, v_76_39, v_76_41, v_76_44, v_76_45, v_76_48, v_76_51, v_76_54, v_76_55, v_76_58, v_76_59, v_76_62, hI2.xb.o1, hI2.xb.o3, hI2.xb.o7, hI2.xb.o14, hI2.xb.o20, hI2.xb.r1_0, hI2.xb.r1_1, hI2.xb.r1_2, hI2.xb.r1_3, hI2.xb.r1_4, hI2.xb.r1_5, hI2.xb.r1_6, hI2.xb.r3_0, hI2.xb.r3_1, hI2.xb.r3_2, hI2.xb.r7_0, hI2.xb.r7_1, hI2.xb.r7_2, hI2.xb.r7_3, hI2.xb.r7_8, hI2.xb.r7_9, hI2.xb.r14_0, hI2.xb.r14_1, hI2.xb.r14_2, hI2.xb.r14_3, hI2.xb.r14_5, hI2.xb.r20_0, hI2.xb.r20_1, hI2.xb.r20_2, hI2.xb.r20_3, hI2.xb.r20_5, z10, z00, not_true_eq_false, not_false_eq_true, false_implies, true_implies, implies_true, true_and, and_true, true_or, or_true, false_and, and_false, false_or, or_false]
      refine X_lengthOf hI2.xb.w20 f2 (by rw [List.length_map]; exact hw2) ?_
      exact hD r lw hr hrm hw1 hw2 σ2 (hq.trans (XQ.f f1)) hI2
/-! the class: to close -/
theorem X_keptByQuota_loop {d : Nat} {σ : Sto} {K : Int32 → Sto → Prop} {pth : Nat → List Int32} {t : Nat} (hX : XB σ) (ht : t < 20) (hp : ∀ o, o < 20 → PX σ o (pth o)) (hl : ∀ o, (pth o).length ≤ 60) : ∀ (n o c : Nat), o + n = 20 → K (nI (c + cnt (fun o => decide (gi σ (28 + 2 * o) 4 = 3) && eqL (pth o) (pth t)) o n)) σ → Ev (d + 1, 0, 0) 102 4 [aR (some 1), aR (some (28 + 2 * t)), aI (nI c), aI (nI o)] [] σ (eI K) := by
  intro n
  induction n with
  | zero =>
    intro o c ho h
    have ho' : o = 20 := by omega
    subst ho'
    have hle : (20 : Int32) ≤ nI 20 := by decide
    rw [v_102_4]
    simp only [z10, z00, not_true_eq_false, not_false_eq_true, false_implies, true_implies, implies_true, nI_1, Int32.add_zero, true_or, or_true, true_and, and_true, eI_eq, eL_eq, eR_eq, eV_eq, lg_cmp_ge, lg_cmp_le, lg_cmp_gt, lg_cmp_lt, lg_cmp_eq, v_102_0, v_102_1, v_102_2, v_102_3, v_102_5, v_102_7, v_102_10, v_102_11, v_102_14, v_102_15, v_102_16, v_102_19, v_102_20, v_102_23, v_102_24, v_102_27, v_102_28, v_102_29, v_102_30, v_102_33, v_102_36, v_102_39, v_102_42, v_102_45, v_102_46, hle]
    exact h
  | succ n ih =>
    intro o c ho h
    have ho2 : o < 20 := by omega
    have hle : ¬ (20 : Int32) ≤ nI o := nI_ge (a := o) (b := 20) (by omega) (by omega)
    have hc : (nI o).toNatClampNeg = o := nI_clamp (by omega)
    rw [v_102_4]
    rw [cnt] at h
    simp only [z10, z00, not_true_eq_false, not_false_eq_true, false_implies, true_implies, implies_true, nI_1, Int32.add_zero, true_or, or_true, true_and, and_true, eI_eq, eL_eq, eR_eq, eV_eq, lg_cmp_ge, lg_cmp_le, lg_cmp_gt, lg_cmp_lt, lg_cmp_eq, v_102_0, v_102_1, v_102_2, v_102_3, v_102_5, v_102_7, v_102_10, v_102_11, v_102_14, v_102_15, v_102_16, v_102_19, v_102_20, v_102_23, v_102_24, v_102_27, v_102_28, v_102_29, v_102_30, v_102_33, v_102_36, v_102_39, v_102_42, v_102_45, v_102_46, hle, hX.o1, hX.r1_0, hX.a2 ho2, hc, hX.tr ho2, hX.oT ho2]
    refine ⟨fun g => ?_, fun g => ?_⟩
    · refine ih (o + 1) c (by omega) ?_
      simpa [g] using h
    · refine X_hasPathOf hX ho2 ht (hp o ho2) (hp t ht) (hl o) (hl t) ?_
      cases hb : eqL (pth o) (pth t) with
      | true =>
        simp only [bI, if_true, z10, z00, not_true_eq_false, not_false_eq_true, false_implies, true_implies, implies_true, nI_1, Int32.add_zero, true_or, or_true, true_and, and_true, eI_eq, eL_eq, eR_eq, eV_eq, lg_cmp_ge, lg_cmp_le, lg_cmp_gt, lg_cmp_lt, lg_cmp_eq, v_102_0, v_102_1, v_102_2, v_102_3, v_102_5, v_102_7, v_102_10, v_102_11, v_102_14, v_102_15, v_102_16, v_102_19, v_102_20, v_102_23, v_102_24, v_102_27, v_102_28, v_102_29, v_102_30, v_102_33, v_102_36, v_102_39, v_102_42, v_102_45, v_102_46, z10, z00, not_true_eq_false, not_false_eq_true, false_implies, true_implies, implies_true, true_and, and_true, true_or, or_true, false_and, and_false, false_or, or_false]
        refine ih (o + 1) (c + 1) (by omega) ?_
        simpa [g, hb, Nat.add_assoc] using h
      | false =>
        simp only [bI, Bool.false_eq_true, if_false, z10, z00, not_true_eq_false, not_false_eq_true, false_implies, true_implies, implies_true, nI_1, Int32.add_zero, true_or, or_true, true_and, and_true, eI_eq, eL_eq, eR_eq, eV_eq, lg_cmp_ge, lg_cmp_le, lg_cmp_gt, lg_cmp_lt, lg_cmp_eq, v_102_0, v_102_1, v_102_2, v_102_3, v_102_5, v_102_7, v_102_10, v_102_11, v_102_14, v_102_15, v_102_16, v_102_19, v_102_20, v_102_23, v_102_24, v_102_27, v_102_28, v_102_29, v_102_30, v_102_33, v_102_36, v_102_39, v_102_42, v_102_45, v_102_46, z10, z00, not_true_eq_false, not_false_eq_true, false_implies, true_implies, implies_true, true_and, and_true, true_or, or_true, false_and, and_false, false_or, or_false]
        refine ih (o + 1) c (by omega) ?_
        simpa [g, hb] using h
theorem X_keptByQuota {d : Nat} {σ : Sto} {K : Int32 → Sto → Prop} {pth : Nat → List Int32} {t : Nat} (hX : XB σ) (ht : t < 20) (hp : ∀ o, o < 20 → PX σ o (pth o)) (hl : ∀ o, (pth o).length ≤ 60) (h : K (nI (cnt (fun o => decide (gi σ (28 + 2 * o) 4 = 3) && eqL (pth o) (pth t)) 0 20)) σ) : CI (d + 1) 102 [aR (some 1), aR (some (28 + 2 * t))] σ K := by
  refine CI_of ?_
  show Ev (d + 1, 0, 0) 102 0 [aR (some 1), aR (some (28 + 2 * t)), aU, aU] [] σ _
  simp only [z10, z00, not_true_eq_false, not_false_eq_true, false_implies, true_implies, implies_true, nI_1, Int32.add_zero, true_or, or_true, true_and, and_true, eI_eq, eL_eq, eR_eq, eV_eq, lg_cmp_ge, lg_cmp_le, lg_cmp_gt, lg_cmp_lt, lg_cmp_eq, v_102_0, v_102_1, v_102_2, v_102_3, v_102_5, v_102_7, v_102_10, v_102_11, v_102_14, v_102_15, v_102_16, v_102_19, v_102_20, v_102_23, v_102_24, v_102_27, v_102_28, v_102_29, v_102_30, v_102_33, v_102_36, v_102_39, v_102_42, v_102_45, v_102_46]
  have := X_keptByQuota_loop (d := d) (K := K) hX ht hp hl 20 0 0 (by omega) (by simpa using h)
  simpa only [nI_0] using this
def byX (σ : Sto) (pth : Nat → List Int32) (t : Nat) (l : List Nat) (a : Nat) : Int32 := byA (gi σ 26 (gi σ a 3).toNatClampNeg) (gl σ a 7 - gl σ a 6) (l.any (faX σ)) (cnt (fun o => decide (gi σ (28 + 2 * o) 4 = 3) && eqL (pth o) (pth t)) 0 20) (gi σ 1 8)
theorem X_reasonToKeep {d : Nat} {σ : Sto} {K : Int32 → Sto → Prop} {pth : Nat → List Int32} {t a : Nat} {l : List Nat} (hX : XB σ) (ht : t < 20) (hTr : Tr σ (28 + 2 * t) l) (ha : a ∈ l) (hR : okR (rwX σ 0 a)) (hp : ∀ o, o < 20 → PX σ o (pth o)) (hl : ∀ o, (pth o).length ≤ 60) (h : K (byX σ pth t l a) σ) : CI (d + 2) 101 [aR (some 1), aR (some (28 + 2 * t)), aR (some a)] σ K := by
  have haO := hTr.ok a ha
  obtain ⟨c, hc8, ec⟩ := hR.2.2.2.2.1
  have ec' : gi σ a 3 = nI c := ec
  have hc : (nI c).toNatClampNeg = c := nI_clamp (by omega)
  unfold byX byA at h
  rw [ec', hc] at h
  refine CI_of ?_
  show Ev (d + 2, 0, 0) 101 0 [aR (some 1), aR (some (28 + 2 * t)), aR (some a), aU] [] σ _
  simp only [z10, z00, not_true_eq_false, not_false_eq_true, false_implies, true_implies, implies_true, nI_1, Int32.add_zero, true_or, or_true, true_and, and_true, eI_eq, eL_eq, eR_eq, eV_eq, lg_cmp_ge, lg_cmp_le, lg_cmp_gt, lg_cmp_lt, lg_cmp_eq, v_101_0, v_101_1, v_101_4, v_101_5, v_101_8, v_101_9, v_101_10, v_101_11, v_101_14, v_101_15, v_101_18, v_101_19, v_101_22, v_101_23, v_101_24, v_101_25, v_101_26, v_101_29, v_101_30, v_101_31, v_101_32, v_101_35, v_101_38, v_101_39, v_101_40, v_101_41, v_101_42, v_101_45, v_101_46, v_101_49, v_101_52, v_101_53, v_101_56, v_101_57, hX.o1, hX.o3, hX.o7, hX.o14, hX.o20, hX.r1_0, hX.r1_1, hX.r1_2, hX.r1_3, hX.r1_4, hX.r1_5, hX.r1_6, hX.r3_0, hX.r3_1, hX.r3_2, hX.r7_0, hX.r7_1, hX.r7_2, hX.r7_3, hX.r7_8, hX.r7_9, hX.r14_0, hX.r14_1, hX.r14_2, hX.r14_3, hX.r14_5, hX.r20_0, hX.r20_1, hX.r20_2, hX.r20_3, hX.r20_5, haO, ec', hX.x26 hc8, hc, hX.oT ht]
  have rest : ¬ (0 < gi σ 26 c ∧ (gi σ 26 c).toInt64 ≤ gl σ a 7 - gl σ a 6) → CI (d + 1) 45 [aR (some (28 + 2 * t))] σ (fun x2 σ2 => Ev (d + 2, 0, 0) 101 35 [aR (some 1), aR (some (28 + 2 * t)), aR (some a), aI (gi σ 26 c)] [aI x2] σ2 (eI K)) := by
    intro g
    rw [if_neg g] at h
    refine X_hasFailed hTr ?_
    cases hb : l.any (faX σ) with
    | true =>
      rw [hb] at h
      simp only [if_true] at h
      simp only [bI, if_true, z10, z00, not_true_eq_false, not_false_eq_true, false_implies, true_implies, implies_true, nI_1, Int32.add_zero, true_or, or_true, true_and, and_true, eI_eq, eL_eq, eR_eq, eV_eq, lg_cmp_ge, lg_cmp_le, lg_cmp_gt, lg_cmp_lt, lg_cmp_eq, v_101_0, v_101_1, v_101_4, v_101_5, v_101_8, v_101_9, v_101_10, v_101_11, v_101_14, v_101_15, v_101_18, v_101_19, v_101_22, v_101_23, v_101_24, v_101_25, v_101_26, v_101_29, v_101_30, v_101_31, v_101_32, v_101_35, v_101_38, v_101_39, v_101_40, v_101_41, v_101_42, v_101_45, v_101_46, v_101_49, v_101_52, v_101_53, v_101_56, v_101_57, z10, z00, not_true_eq_false, not_false_eq_true, false_implies, true_implies, implies_true, true_and, and_true, true_or, or_true, false_and, and_false, false_or, or_false]
      exact h
    | false =>
      rw [hb] at h
      simp only [Bool.false_eq_true, if_false] at h
      simp only [bI, Bool.false_eq_true, if_false, z10, z00, not_true_eq_false, not_false_eq_true, false_implies, true_implies, implies_true, nI_1, Int32.add_zero, true_or, or_true, true_and, and_true, eI_eq, eL_eq, eR_eq, eV_eq, lg_cmp_ge, lg_cmp_le, lg_cmp_gt, lg_cmp_lt, lg_cmp_eq, v_101_0, v_101_1, v_101_4, v_101_5, v_101_8, v_101_9, v_101_10, v_101_11, v_101_14, v_101_15, v_101_18, v_101_19, v_101_22, v_101_23, v_101_24, v_101_25, v_101_26, v_101_29, v_101_30, v_101_31, v_101_32, v_101_35, v_101_38, v_101_39, v_101_40, v_101_41, v_101_42, v_101_45, v_101_46, v_101_49, v_101_52, v_101_53, v_101_56, v_101_57, hX.o1, hX.o3, hX.o7, hX.o14, hX.o20, hX.r1_0, hX.r1_1, hX.r1_2, hX.r1_3, hX.r1_4, hX.r1_5, hX.r1_6, hX.r3_0, hX.r3_1, hX.r3_2, hX.r7_0, hX.r7_1, hX.r7_2, hX.r7_3, hX.r7_8, hX.r7_9, hX.r14_0, hX.r14_1, hX.r14_2, hX.r14_3, hX.r14_5, hX.r20_0, hX.r20_1, hX.r20_2, hX.r20_3, hX.r20_5, z10, z00, not_true_eq_false, not_false_eq_true, false_implies, true_implies, implies_true, true_and, and_true, true_or, or_true, false_and, and_false, false_or, or_false]
      refine X_keptByQuota hX ht hp hl ?_
      simp only [z10, z00, not_true_eq_false, not_false_eq_true, false_implies, true_implies, implies_true, nI_1, Int32.add_zero, true_or, or_true, true_and, and_true, eI_eq, eL_eq, eR_eq, eV_eq, lg_cmp_ge, lg_cmp_le, lg_cmp_gt, lg_cmp_lt, lg_cmp_eq, v_101_0, v_101_1, v_101_4, v_101_5, v_101_8, v_101_9, v_101_10, v_101_11, v_101_14, v_101_15, v_101_18, v_101_19, v_101_22, v_101_23, v_101_24, v_101_25, v_101_26, v_101_29, v_101_30, v_101_31, v_101_32, v_101_35, v_101_38, v_101_39, v_101_40, v_101_41, v_101_42, v_101_45, v_101_46, v_101_49, v_101_52, v_101_53, v_101_56, v_101_57, hX.o1, hX.o3, hX.o7, hX.o14, hX.o20, hX.r1_0, hX.r1_1, hX.r1_2, hX.r1_3, hX.r1_4, hX.r1_5, hX.r1_6, hX.r3_0, hX.r3_1, hX.r3_2, hX.r7_0, hX.r7_1, hX.r7_2, hX.r7_3, hX.r7_8, hX.r7_9, hX.r14_0, hX.r14_1, hX.r14_2, hX.r14_3, hX.r14_5, hX.r20_0, hX.r20_1, hX.r20_2, hX.r20_3, hX.r20_5, z10, z00, not_true_eq_false, not_false_eq_true, false_implies, true_implies, implies_true, true_and, and_true, true_or, or_true, false_and, and_false, false_or, or_false]
      refine ⟨fun g2 => ?_, fun g2 => ?_⟩
      · rw [if_neg (Int32.not_lt.mpr g2)] at h; exact h
      · rw [if_pos (Int32.not_le.mp g2)] at h; exact h
  simp only [z10, z00, not_true_eq_false, not_false_eq_true, false_implies, true_implies, implies_true, nI_1, Int32.add_zero, true_or, or_true, true_and, and_true, eI_eq, eL_eq, eR_eq, eV_eq, lg_cmp_ge, lg_cmp_le, lg_cmp_gt, lg_cmp_lt, lg_cmp_eq, v_101_0, v_101_1, v_101_4, v_101_5, v_101_8, v_101_9, v_101_10, v_101_11, v_101_14, v_101_15, v_101_18, v_101_19, v_101_22, v_101_23, v_101_24, v_101_25, v_101_26, v_101_29, v_101_30, v_101_31, v_101_32, v_101_35, v_101_38, v_101_39, v_101_40, v_101_41, v_101_42, v_101_45, v_101_46, v_101_49, v_101_52, v_101_53, v_101_56, v_101_57] at rest
  refine ⟨fun g => rest (fun q => Int32.not_lt.mpr g q.1), fun g => ⟨fun g2 => rest (fun q => Int64.not_le.mpr g2 q.2), fun g2 => ?_⟩⟩
  rw [if_pos ⟨Int32.not_le.mp g, Int64.not_lt.mp g2⟩] at h
  exact h
def kpX (σ : Sto) (t n : Nat) (by_ : Int32) : Sto := si (si (si (si (si σ (28 + 2 * t) 3 1) (28 + 2 * t) 4 by_) (28 + 2 * t) 5 1) 27 n (nI t)) 1 7 (nI (n + 1))
theorem X_keepTrace {d : Nat} {σ : Sto} {K : Sto → Prop} {t n : Nat} {by_ : Int32} (hX : XB σ) (ht : t < 20) (hn : gi σ 1 7 = nI n) (hn2 : n < 20) (h : K (kpX σ t n by_)) : CV d 103 [aR (some 1), aI (nI t), aR (some (28 + 2 * t)), aI by_] σ K := by
  have c1 : ¬ (20 : Int32) ≤ nI n := nI_ge (a := n) (b := 20) hn2 (by omega)
  have hc : (nI n).toNatClampNeg = n := nI_clamp (by omega)
  have e1 : ((1 : Nat) = 28 + 2 * t) = False := eq_false (by omega)
  have e27 : ((27 : Nat) = 28 + 2 * t) = False := eq_false (by omega)
  have e7 : ((1 : Nat) = 27) = False := eq_false (by omega)
  refine CV_of ?_
  show Ev (d, 0, 0) 103 0 [aR (some 1), aI (nI t), aR (some (28 + 2 * t)), aI by_] [] σ _
  simp only [z10, z00, not_true_eq_false, not_false_eq_true, false_implies, true_implies, implies_true, nI_1, Int32.add_zero, true_or, or_true, true_and, and_true, eI_eq, eL_eq, eR_eq, eV_eq, lg_cmp_ge, lg_cmp_le, lg_cmp_gt, lg_cmp_lt, lg_cmp_eq, v_103_0, v_103_1, v_103_2, v_103_5, v_103_6, v_103_7, v_103_10, v_103_11, v_103_12, v_103_15, v_103_16, v_103_19, v_103_21, v_103_24, v_103_25, v_103_28, v_103_29, v_103_32, v_103_33, v_103_34, v_103_35, v_103_36, v_103_39, v_103_40, v_103_41, v_103_44, okO_si, okA_si, hX.oT ht, hX.o1, hX.r1_6, hX.a27 hn2, gi_si_k, gr_si_r, e1, e7, hn, c1, hc, if_false, false_and, z10, z00, not_true_eq_false, not_false_eq_true, false_implies, true_implies, implies_true, true_and, and_true, true_or, or_true, false_and, and_false, false_or, or_false]
  exact h
def lvX (σ : Sto) (t : Nat) (lt : Option Nat) : Sto := match lt with
  | some o => si (si σ (28 + 2 * t) 3 2) (28 + 2 * o) 5 (gi σ (28 + 2 * o) 5 + 1)
  | none => si (si σ (28 + 2 * t) 3 2) 1 14 (gi σ 1 14 + 1)
/-- the latest kept ones, by the class's own row -/
def KL (σ : Sto) (kl : List Nat) : Prop := ∀ i o, kl[i]? = some o → o < 20 ∧ gi σ 27 i = nI o
theorem X_leaveOut_loop {d : Nat} {σ σ0 : Sto} {K : Sto → Prop} {pth : Nat → List Int32} {t : Nat} {kl : List Nat} (e0 : σ0 = si σ (28 + 2 * t) 3 2) (hX : XB σ) (ht : t < 20) (hp : ∀ o, o < 20 → PX σ o (pth o)) (hl : ∀ o, (pth o).length ≤ 60) (hk : KL σ kl) (hk2 : kl.length ≤ 20) : ∀ (n : Nat) (u3 : AV), n ≤ kl.length → K (lvX σ t ((kl.take n).reverse.find? (fun o => eqL (pth o) (pth t)))) → Ev (d + 1, 0, 0) 104 12 [aR (some 1), aR (some (28 + 2 * t)), aI (nI n + (-1)), u3] [] σ0 (eV K) := by
  have hX0 : XB σ0 := by subst e0; exact XB_of (σ := σ) (Nat.le_refl _) (fun _ _ _ _ => rfl) hX
  have hp0 : ∀ o, o < 20 → PX σ0 o (pth o) := fun o ho => by
    subst e0
    refine ⟨?_, fun i q hq => ?_⟩
    · rw [gi_si_k, if_neg (by omega)]; exact (hp o ho).1
    · rw [gi_si_k, if_neg (by omega)]; exact (hp o ho).2 i q hq
  intro n
  induction n with
  | zero =>
    intro u3 hn h
    have c1 : nI 0 + (-1) < 0 := by decide
    have e14 : gi σ0 1 14 = gi σ 1 14 := by rw [e0, gi_si_k, if_neg (by omega)]
    rw [v_104_12]
    simp only [z10, z00, not_true_eq_false, not_false_eq_true, false_implies, true_implies, implies_true, nI_1, Int32.add_zero, true_or, or_true, true_and, and_true, eI_eq, eL_eq, eR_eq, eV_eq, lg_cmp_ge, lg_cmp_le, lg_cmp_gt, lg_cmp_lt, lg_cmp_eq, v_104_0, v_104_1, v_104_2, v_104_5, v_104_6, v_104_9, v_104_10, v_104_11, v_104_13, v_104_16, v_104_17, v_104_18, v_104_21, v_104_22, v_104_23, v_104_26, v_104_27, v_104_28, v_104_31, v_104_32, v_104_33, v_104_36, v_104_39, v_104_40, v_104_41, v_104_44, v_104_45, v_104_46, v_104_49, v_104_50, v_104_53, v_104_56, v_104_57, v_104_58, v_104_61, v_104_62, v_104_63, v_104_66, c1, hX0.o1, e14, z10, z00, not_true_eq_false, not_false_eq_true, false_implies, true_implies, implies_true, true_and, and_true, true_or, or_true, false_and, and_false, false_or, or_false]
    rw [e0]
    exact h
  | succ n ih =>
    intro u3 hn h
    have hlt : n < kl.length := by omega
    obtain ⟨ho, e27⟩ := hk n kl[n] (List.getElem?_eq_getElem hlt)
    have e27' : gi σ0 27 n = nI kl[n] := by rw [e0, gi_si_k, if_neg (by omega)]; exact e27
    have c1 : ¬ nI n < 0 := nI_pos (by omega)
    have hc : (nI n).toNatClampNeg = n := nI_clamp (by omega)
    have et : (kl.take (n + 1)).reverse = kl[n] :: (kl.take n).reverse := by
      rw [List.take_add_one, List.getElem?_eq_getElem hlt]; simp
    rw [et, List.find?_cons] at h
    rw [pk_m1, v_104_12]
    simp only [z10, z00, not_true_eq_false, not_false_eq_true, false_implies, true_implies, implies_true, nI_1, Int32.add_zero, true_or, or_true, true_and, and_true, eI_eq, eL_eq, eR_eq, eV_eq, lg_cmp_ge, lg_cmp_le, lg_cmp_gt, lg_cmp_lt, lg_cmp_eq, v_104_0, v_104_1, v_104_2, v_104_5, v_104_6, v_104_9, v_104_10, v_104_11, v_104_13, v_104_16, v_104_17, v_104_18, v_104_21, v_104_22, v_104_23, v_104_26, v_104_27, v_104_28, v_104_31, v_104_32, v_104_33, v_104_36, v_104_39, v_104_40, v_104_41, v_104_44, v_104_45, v_104_46, v_104_49, v_104_50, v_104_53, v_104_56, v_104_57, v_104_58, v_104_61, v_104_62, v_104_63, v_104_66, c1, hX0.o1, hX0.r1_6, hX0.x27 (k := n) (by omega), hc, e27', z10, z00, not_true_eq_false, not_false_eq_true, false_implies, true_implies, implies_true, true_and, and_true, true_or, or_true, false_and, and_false, false_or, or_false]
    refine X_traceAt hX0 (fun c => ?_) (fun o ho2 eo => ?_)
    · exfalso
      rcases c with c | c
      · exact nI_pos (by omega) c
      · exact nI_ge (a := kl[n]) (b := 20) ho (by omega) c
    · have eo' : o = kl[n] := ((nI_eq (by omega) (by omega)).mp eo).symm
      subst eo'
      simp only [reduceCtorEq, z10, z00, not_true_eq_false, not_false_eq_true, false_implies, true_implies, implies_true, nI_1, Int32.add_zero, true_or, or_true, true_and, and_true, eI_eq, eL_eq, eR_eq, eV_eq, lg_cmp_ge, lg_cmp_le, lg_cmp_gt, lg_cmp_lt, lg_cmp_eq, v_104_0, v_104_1, v_104_2, v_104_5, v_104_6, v_104_9, v_104_10, v_104_11, v_104_13, v_104_16, v_104_17, v_104_18, v_104_21, v_104_22, v_104_23, v_104_26, v_104_27, v_104_28, v_104_31, v_104_32, v_104_33, v_104_36, v_104_39, v_104_40, v_104_41, v_104_44, v_104_45, v_104_46, v_104_49, v_104_50, v_104_53, v_104_56, v_104_57, v_104_58, v_104_61, v_104_62, v_104_63, v_104_66, hX0.oT ho, z10, z00, not_true_eq_false, not_false_eq_true, false_implies, true_implies, implies_true, true_and, and_true, true_or, or_true, false_and, and_false, false_or, or_false]
      refine X_hasPathOf hX0 ho ht (hp0 _ ho) (hp0 t ht) (hl _) (hl t) ?_
      cases hb : eqL (pth kl[n]) (pth t) with
      | true =>
        rw [hb] at h
        have e5 : gi σ0 (28 + 2 * kl[n]) 5 = gi σ (28 + 2 * kl[n]) 5 := by rw [e0, gi_si_k, if_neg (by omega)]
        simp only [bI, if_true, z10, z00, not_true_eq_false, not_false_eq_true, false_implies, true_implies, implies_true, nI_1, Int32.add_zero, true_or, or_true, true_and, and_true, eI_eq, eL_eq, eR_eq, eV_eq, lg_cmp_ge, lg_cmp_le, lg_cmp_gt, lg_cmp_lt, lg_cmp_eq, v_104_0, v_104_1, v_104_2, v_104_5, v_104_6, v_104_9, v_104_10, v_104_11, v_104_13, v_104_16, v_104_17, v_104_18, v_104_21, v_104_22, v_104_23, v_104_26, v_104_27, v_104_28, v_104_31, v_104_32, v_104_33, v_104_36, v_104_39, v_104_40, v_104_41, v_104_44, v_104_45, v_104_46, v_104_49, v_104_50, v_104_53, v_104_56, v_104_57, v_104_58, v_104_61, v_104_62, v_104_63, v_104_66, hX0.oT ho, e5, z10, z00, not_true_eq_false, not_false_eq_true, false_implies, true_implies, implies_true, true_and, and_true, true_or, or_true, false_and, and_false, false_or, or_false]
        rw [e0]
        exact h
      | false =>
        rw [hb] at h
        simp only [bI, Bool.false_eq_true, if_false, z10, z00, not_true_eq_false, not_false_eq_true, false_implies, true_implies, implies_true, nI_1, Int32.add_zero, true_or, or_true, true_and, and_true, eI_eq, eL_eq, eR_eq, eV_eq, lg_cmp_ge, lg_cmp_le, lg_cmp_gt, lg_cmp_lt, lg_cmp_eq, v_104_0, v_104_1, v_104_2, v_104_5, v_104_6, v_104_9, v_104_10, v_104_11, v_104_13, v_104_16, v_104_17, v_104_18, v_104_21, v_104_22, v_104_23, v_104_26, v_104_27, v_104_28, v_104_31, v_104_32, v_104_33, v_104_36, v_104_39, v_104_40, v_104_41, v_104_44, v_104_45, v_104_46, v_104_49, v_104_50, v_104_53, v_104_56, v_104_57, v_104_58, v_104_61, v_104_62, v_104_63, v_104_66, z10, z00, not_true_eq_false, not_false_eq_true, false_implies, true_implies, implies_true, true_and, and_true, true_or, or_true, false_and, and_false, false_or, or_false]
        exact ih _ (by omega) h
theorem X_leaveOut {d : Nat} {σ : Sto} {K : Sto → Prop} {pth : Nat → List Int32} {t : Nat} {kl : List Nat} (hX : XB σ) (ht : t < 20) (hp : ∀ o, o < 20 → PX σ o (pth o)) (hl : ∀ o, (pth o).length ≤ 60) (hk : KL σ kl) (hk2 : kl.length ≤ 20) (hn : gi σ 1 7 = nI kl.length) (h : K (lvX σ t (kl.reverse.find? (fun o => eqL (pth o) (pth t))))) : CV (d + 1) 104 [aR (some 1), aR (some (28 + 2 * t))] σ K := by
  refine CV_of ?_
  show Ev (d + 1, 0, 0) 104 0 [aR (some 1), aR (some (28 + 2 * t)), aU, aU] [] σ _
  have e1 : gi (si σ (28 + 2 * t) 3 2) 1 7 = nI kl.length := by rw [gi_si_k, if_neg (by omega)]; exact hn
  have em : nI kl.length - 1 = nI kl.length + (-1) := by rw [Int32.sub_eq_add_neg]
  simp only [z10, z00, not_true_eq_false, not_false_eq_true, false_implies, true_implies, implies_true, nI_1, Int32.add_zero, true_or, or_true, true_and, and_true, eI_eq, eL_eq, eR_eq, eV_eq, lg_cmp_ge, lg_cmp_le, lg_cmp_gt, lg_cmp_lt, lg_cmp_eq, v_104_0, v_104_1, v_104_2, v_104_5, v_104_6, v_104_9, v_104_10, v_104_11, v_104_13, v_104_16, v_104_17, v_104_18, v_104_21, v_104_22, v_104_23, v_104_26, v_104_27, v_104_28, v_104_31, v_104_32, v_104_33, v_104_36, v_104_39, v_104_40, v_104_41, v_104_44, v_104_45, v_104_46, v_104_49, v_104_50, v_104_53, v_104_56, v_104_57, v_104_58, v_104_61, v_104_62, v_104_63, v_104_66, okO_si, hX.oT ht, hX.o1, e1, em]
  refine X_leaveOut_loop rfl hX ht hp hl hk hk2 kl.length _ (Nat.le_refl _) ?_
  rw [List.take_length]
  exact h
