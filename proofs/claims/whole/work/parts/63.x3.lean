/-! the class: failed ones, asks, paths -/
def faX (σ : Sto) (a : Nat) : Bool := decide (gi σ a 5 = 1)
theorem X_hasFailed_loop {b : B3} {σ : Sto} {K : Int32 → Sto → Prop} {T : Nat} : ∀ (m : List Nat), lkt σ m none → K (bI (m.any (faX σ))) σ → Ev b 45 5 [aR (some T), aR m.head?] [] σ (eI K) := by
  intro m
  induction m with
  | nil =>
    intro hl h
    rw [v_45_5]
    simp only [List.head?_nil, z10, z00, not_true_eq_false, not_false_eq_true, false_implies, true_implies, implies_true, nI_1, Int32.add_zero, true_or, or_true, true_and, and_true, eI_eq, eL_eq, eR_eq, eV_eq, lg_cmp_ge, lg_cmp_le, lg_cmp_gt, lg_cmp_lt, lg_cmp_eq, v_45_6, v_45_9, v_45_10, v_45_13, v_45_14, v_45_17, v_45_18, v_45_19, v_45_20, v_45_23, v_45_24, v_45_27, v_45_28]
    exact h
  | cons a m ih =>
    intro hl h
    obtain ⟨h1, h2, h3, h4⟩ := hl
    rw [Option.or_none] at h3
    have hO := okS_of h1 h2
    rw [v_45_5]
    simp only [List.head?_cons, reduceCtorEq, z10, z00, not_true_eq_false, not_false_eq_true, false_implies, true_implies, implies_true, nI_1, Int32.add_zero, true_or, or_true, true_and, and_true, eI_eq, eL_eq, eR_eq, eV_eq, lg_cmp_ge, lg_cmp_le, lg_cmp_gt, lg_cmp_lt, lg_cmp_eq, v_45_6, v_45_9, v_45_10, v_45_13, v_45_14, v_45_17, v_45_18, v_45_19, v_45_20, v_45_23, v_45_24, v_45_27, v_45_28, hO, h3, z10, z00, not_true_eq_false, not_false_eq_true, false_implies, true_implies, implies_true, true_and, and_true, true_or, or_true, false_and, and_false, false_or, or_false]
    rw [List.any_cons] at h
    exact ⟨fun g => ih h4 (by simpa [faX, g] using h), fun g => by simpa [faX, g, bI] using h⟩
theorem X_hasFailed {d : Nat} {σ : Sto} {K : Int32 → Sto → Prop} {T : Nat} {l : List Nat} (hTr : Tr σ T l) (h : K (bI (l.any (faX σ))) σ) : CI d 45 [aR (some T)] σ K := by
  refine CI_of ?_
  show Ev (d, 0, 0) 45 0 [aR (some T), aU] [] σ _
  simp only [z10, z00, not_true_eq_false, not_false_eq_true, false_implies, true_implies, implies_true, nI_1, Int32.add_zero, true_or, or_true, true_and, and_true, eI_eq, eL_eq, eR_eq, eV_eq, lg_cmp_ge, lg_cmp_le, lg_cmp_gt, lg_cmp_lt, lg_cmp_eq, v_45_0, v_45_1, v_45_4, hTr.1, hTr.2.2.1]
  exact X_hasFailed_loop l hTr.2.2.2.1 h
def seB (σ : Sto) (k a : Nat) : Bool := decide (gi σ a 4 = 2 ∧ gi σ a 1 = gi σ k 0)
def seY (σ : Sto) (y : Int32) (k a : Nat) : Bool := seB σ k a && decide (gi σ a 2 = y)
def seF (σ : Sto) (y : Int32) (k a : Nat) : Bool := seY σ y k a && decide (gi σ a 5 = 1)
theorem X_isCounted_loop {b : B3} {σ : Sto} {Q : Po} {T k : Nat} {y w : Int32} (hk : okO σ k 1) : ∀ (m : List Nat) (a i f : Bool), lkt σ m none → Ev b 47 117 [aR (some T), aR (some k), aI y, aI w, aI (bI (a || m.any (seB σ k))), aI (bI (i || m.any (seY σ y k))), aI (bI (f || m.any (seF σ y k))), aR none] [] σ Q → Ev b 47 27 [aR (some T), aR (some k), aI y, aI w, aI (bI a), aI (bI i), aI (bI f), aR m.head?] [] σ Q := by
  intro m
  induction m with
  | nil =>
    intro a i f hl h
    rw [v_47_27]
    simp only [List.head?_nil, v_47_29, z10, z00, not_true_eq_false, not_false_eq_true, false_implies, true_implies, implies_true, true_and, and_true, true_or, or_true, false_and, and_false, false_or, or_false]
    simpa using h
  | cons c m ih =>
    intro a i f hl h
    obtain ⟨h1, h2, h3, h4⟩ := hl
    rw [Option.or_none] at h3
    have hO := okS_of h1 h2
    have fin : ∀ a' i' f', a' = (a || seB σ k c) → i' = (i || seY σ y k c) → f' = (f || seF σ y k c) → Ev b 47 27 [aR (some T), aR (some k), aI y, aI w, aI (bI a'), aI (bI i'), aI (bI f'), aR m.head?] [] σ Q := by
      intro a' i' f' e1 e2 e3
      refine ih a' i' f' h4 ?_
      rw [e1, e2, e3, Bool.or_assoc, Bool.or_assoc, Bool.or_assoc]
      exact h
    rw [v_47_27]
    simp only [List.head?_cons, reduceCtorEq, z10, z00, not_true_eq_false, not_false_eq_true, false_implies, true_implies, implies_true, nI_1, Int32.add_zero, true_or, or_true, true_and, and_true, eI_eq, eL_eq, eR_eq, eV_eq, lg_cmp_ge, lg_cmp_le, lg_cmp_gt, lg_cmp_lt, lg_cmp_eq, v_47_29, v_47_32, v_47_34, v_47_37, v_47_38, v_47_41, v_47_43, v_47_46, v_47_47, v_47_50, v_47_53, v_47_54, v_47_56, v_47_58, v_47_61, v_47_63, v_47_66, v_47_67, v_47_70, v_47_71, v_47_74, v_47_75, v_47_77, v_47_79, v_47_82, v_47_84, v_47_87, v_47_88, v_47_91, v_47_93, v_47_96, v_47_97, v_47_100, v_47_101, v_47_104, v_47_105, v_47_107, v_47_109, v_47_112, v_47_114, hO, hk, h3, z10, z00, not_true_eq_false, not_false_eq_true, false_implies, true_implies, implies_true, true_and, and_true, true_or, or_true, false_and, and_false, false_or, or_false]
    refine ⟨fun g => ?_, fun g => ⟨fun g2 => ?_, fun g2 => ?_⟩⟩
    · have e : seB σ k c = false := by simp [seB, g]
      exact fin a i f (by simp [e]) (by simp [seY, e]) (by simp [seF, seY, e])
    · have e : seB σ k c = false := by simp [seB, g2]
      exact fin a i f (by simp [e]) (by simp [seY, e]) (by simp [seF, seY, e])
    · have e : seB σ k c = true := by simp [seB, g, g2]
      have eY : seY σ y k c = decide (gi σ c 2 = y) := by rw [seY, e, Bool.true_and]
      have eF : seF σ y k c = (decide (gi σ c 2 = y) && decide (gi σ c 5 = 1)) := by rw [seF, eY]
      rw [e, eY, eF] at fin
      cases i with
      | true =>
        cases f with
        | true =>
          simp only [bI, if_true, z10, z00, not_true_eq_false, not_false_eq_true, false_implies, true_implies, implies_true, true_and, and_true, true_or, or_true, false_and, and_false, false_or, or_false]
          exact fin true true true (by simp) (by simp) (by simp)
        | false =>
          simp only [bI, if_true, Bool.false_eq_true, if_false, z10, z00, not_true_eq_false, not_false_eq_true, false_implies, true_implies, implies_true, true_and, and_true, true_or, or_true, false_and, and_false, false_or, or_false]
          exact ⟨fun q => fin true true false (by simp) (by simp) (by simp [q]), fun q => ⟨fun q2 => fin true true false (by simp) (by simp) (by simp [q2]), fun q2 => fin true true true (by simp) (by simp) (by simp [q, q2])⟩⟩
      | false =>
        cases f with
        | true =>
          simp only [bI, if_true, Bool.false_eq_true, if_false, z10, z00, not_true_eq_false, not_false_eq_true, false_implies, true_implies, implies_true, true_and, and_true, true_or, or_true, false_and, and_false, false_or, or_false]
          exact ⟨fun q => fin true false true (by simp) (by simp [q]) (by simp), fun q => fin true true true (by simp) (by simp [q]) (by simp)⟩
        | false =>
          simp only [bI, if_true, Bool.false_eq_true, if_false, z10, z00, not_true_eq_false, not_false_eq_true, false_implies, true_implies, implies_true, true_and, and_true, true_or, or_true, false_and, and_false, false_or, or_false]
          refine ⟨fun q => ⟨fun _ => fin true false false (by simp) (by simp [q]) (by simp [q]), fun q1 => absurd q1 q⟩, fun q => ⟨fun q1 => absurd q q1, fun _ => ⟨fun q2 => fin true true false (by simp) (by simp [q]) (by simp [q2]), fun q2 => fin true true true (by simp) (by simp [q]) (by simp [q, q2])⟩⟩⟩
def ctX (σ : Sto) (l : List Nat) (y w : Int32) (k : Nat) : Bool := if w = 2 then ! l.any (seB σ k) else (l.any (seY σ y k) && (decide (w = 0) || (decide (gi σ k 5 = 1) || l.any (seF σ y k))))
theorem X_isCounted {d : Nat} {σ : Sto} {K : Int32 → Sto → Prop} {T k : Nat} {y w : Int32} {l : List Nat} (hTr : Tr σ T l) (hk : okO σ k 1) (h : K (bI (ctX σ l y w k)) σ) : CI d 47 [aR (some T), aR (some k), aI y, aI w] σ K := by
  refine CI_of ?_
  show Ev (d, 0, 0) 47 0 [aR (some T), aR (some k), aI y, aI w, aU, aU, aU, aU] [] σ _
  simp only [z10, z00, not_true_eq_false, not_false_eq_true, false_implies, true_implies, implies_true, nI_1, Int32.add_zero, true_or, or_true, true_and, and_true, eI_eq, eL_eq, eR_eq, eV_eq, lg_cmp_ge, lg_cmp_le, lg_cmp_gt, lg_cmp_lt, lg_cmp_eq, v_47_0, v_47_1, v_47_3, v_47_4, v_47_6, v_47_7, v_47_10, v_47_11, v_47_14, v_47_15, v_47_18, v_47_19, v_47_21, v_47_22, v_47_25, hTr.1, hTr.2.2.1, hk]
  have rest : ∀ f : Bool, f = decide (gi σ k 5 = 1) → Ev (d, 0, 0) 47 27 [aR (some T), aR (some k), aI y, aI w, aI (bI false), aI (bI false), aI (bI f), aR l.head?] [] σ (eI K) := by
    intro f ef
    refine X_isCounted_loop hk l false false f hTr.2.2.2.1 ?_
    unfold ctX at h
    rw [← ef] at h
    simp only [Bool.false_or]
    generalize l.any (seB σ k) = A at h ⊢
    generalize l.any (seY σ y k) = Y at h ⊢
    generalize (f || l.any (seF σ y k)) = F at h ⊢
    cases A <;> cases Y <;> cases F <;> simp only [z10, z00, not_true_eq_false, not_false_eq_true, false_implies, true_implies, implies_true, nI_1, Int32.add_zero, true_or, or_true, true_and, and_true, eI_eq, eL_eq, eR_eq, eV_eq, lg_cmp_ge, lg_cmp_le, lg_cmp_gt, lg_cmp_lt, lg_cmp_eq, v_47_117, v_47_118, v_47_119, v_47_122, v_47_124, v_47_127, v_47_128, v_47_131, v_47_132, v_47_135, v_47_137, v_47_140, v_47_141, v_47_144, v_47_146, v_47_149, v_47_150, v_47_153, v_47_154, bI, if_true, if_false, Bool.false_eq_true, z10, z00, not_true_eq_false, not_false_eq_true, false_implies, true_implies, implies_true, true_and, and_true, true_or, or_true, false_and, and_false, false_or, or_false] <;> refine ⟨fun g => ?_, fun g => ?_⟩ <;> first
      | exact (by simpa [g, bI] using h)
      | exact ⟨fun g2 => by simpa [g, g2, bI] using h, fun g2 => by simpa [g, g2, bI] using h⟩
  exact ⟨fun g => rest false (by simp [g]), fun g => rest true (by simp [g])⟩
def asB (σ : Sto) (l : List Nat) (x y w : Int32) (a : Nat) : Bool := decide (gi σ a 4 = 1 ∧ gi σ a 2 = x) && ctX σ l y w a
theorem X_asks_loop {d : Nat} {σ : Sto} {K : Int32 → Sto → Prop} {T : Nat} {x y w : Int32} {l : List Nat} (hTr : Tr σ T l) : ∀ (m : List Nat) (c : Nat), lkt σ m none → K (nI (c + m.countP (asB σ l x y w))) σ → Ev (d + 1, 0, 0) 46 9 [aR (some T), aI x, aI y, aI w, aI (nI c), aR m.head?] [] σ (eI K) := by
  intro m
  induction m with
  | nil =>
    intro c hl h
    rw [v_46_9]
    simp only [List.head?_nil, z10, z00, not_true_eq_false, not_false_eq_true, false_implies, true_implies, implies_true, nI_1, Int32.add_zero, true_or, or_true, true_and, and_true, eI_eq, eL_eq, eR_eq, eV_eq, lg_cmp_ge, lg_cmp_le, lg_cmp_gt, lg_cmp_lt, lg_cmp_eq, v_46_11, v_46_14, v_46_16, v_46_19, v_46_20, v_46_23, v_46_25, v_46_28, v_46_29, v_46_32, v_46_33, v_46_35, v_46_36, v_46_37, v_46_40, v_46_43, v_46_46, v_46_48, v_46_51, v_46_53, v_46_56, v_46_58]
    exact h
  | cons a m ih =>
    intro c hl h
    obtain ⟨h1, h2, h3, h4⟩ := hl
    rw [Option.or_none] at h3
    have hO := okS_of h1 h2
    rw [v_46_9]
    simp only [List.head?_cons, reduceCtorEq, z10, z00, not_true_eq_false, not_false_eq_true, false_implies, true_implies, implies_true, nI_1, Int32.add_zero, true_or, or_true, true_and, and_true, eI_eq, eL_eq, eR_eq, eV_eq, lg_cmp_ge, lg_cmp_le, lg_cmp_gt, lg_cmp_lt, lg_cmp_eq, v_46_11, v_46_14, v_46_16, v_46_19, v_46_20, v_46_23, v_46_25, v_46_28, v_46_29, v_46_32, v_46_33, v_46_35, v_46_36, v_46_37, v_46_40, v_46_43, v_46_46, v_46_48, v_46_51, v_46_53, hO, h3, hTr.1, z10, z00, not_true_eq_false, not_false_eq_true, false_implies, true_implies, implies_true, true_and, and_true, true_or, or_true, false_and, and_false, false_or, or_false]
    rw [List.countP_cons] at h
    have e : asB σ l x y w a = (decide (gi σ a 4 = 1 ∧ gi σ a 2 = x) && ctX σ l y w a) := rfl
    rw [e] at h
    refine ⟨fun g => ih c h4 (by simpa [g] using h), fun g => ⟨fun g2 => ih c h4 (by simpa [g2] using h), fun g2 => X_isCounted hTr hO ?_⟩⟩
    cases hc : ctX σ l y w a with
    | false =>
      simp only [bI, Bool.false_eq_true, if_false, hO, h3, z10, z00, not_true_eq_false, not_false_eq_true, false_implies, true_implies, implies_true, true_and, and_true, true_or, or_true, false_and, and_false, false_or, or_false]
      exact ih c h4 (by simpa [hc] using h)
    | true =>
      simp only [bI, if_true, hO, h3, nI_1, z10, z00, not_true_eq_false, not_false_eq_true, false_implies, true_implies, implies_true, true_and, and_true, true_or, or_true, false_and, and_false, false_or, or_false]
      exact ih (c + 1) h4 (by simpa [hc, g, g2, Nat.add_assoc, Nat.add_comm 1] using h)
theorem X_asks {d : Nat} {σ : Sto} {K : Int32 → Sto → Prop} {T : Nat} {x y w : Int32} {l : List Nat} (hTr : Tr σ T l) (h : K (nI (l.countP (asB σ l x y w))) σ) : CI (d + 1) 46 [aR (some T), aI x, aI y, aI w] σ K := by
  refine CI_of ?_
  show Ev (d + 1, 0, 0) 46 0 [aR (some T), aI x, aI y, aI w, aU, aU] [] σ _
  simp only [z10, z00, not_true_eq_false, not_false_eq_true, false_implies, true_implies, implies_true, nI_1, Int32.add_zero, true_or, or_true, true_and, and_true, eI_eq, eL_eq, eR_eq, eV_eq, lg_cmp_ge, lg_cmp_le, lg_cmp_gt, lg_cmp_lt, lg_cmp_eq, v_46_0, v_46_1, v_46_3, v_46_4, v_46_7, hTr.1, hTr.2.2.1]
  have := X_asks_loop (d := d) (K := K) (T := T) (x := x) (y := y) (w := w) hTr l 0 hTr.2.2.2.1 (by simpa using h)
  simpa only [nI_0] using this
/-- the shape of a way -/
def WB (σ : Sto) (w : Nat) : Prop := okO σ w 4 ∧ gr σ w 0 = some (w + 1) ∧ gr σ w 1 = some (w + 2) ∧ gr σ w 2 = some (w + 3) ∧ gr σ w 3 = some (w + 4) ∧ gr σ w 5 = some (w + 5) ∧ (∀ k, k < 60 → okX σ (w + 1) (nI k) ∧ okA σ (w + 1) 7 (nI k) ∧ okX σ (w + 2) (nI k) ∧ okA σ (w + 2) 7 (nI k) ∧ okA σ (w + 3) 8 (nI k) ∧ okA σ (w + 4) 8 (nI k)) ∧ (∀ k, k < 6 → okA σ (w + 5) 8 (nI k))
theorem XB.w14 {σ : Sto} (h : XB σ) : WB σ 14 := ⟨h.o14, h.r14_0, h.r14_1, h.r14_2, h.r14_3, h.r14_5, fun k hk => ⟨h.x15 hk, h.a15 hk, h.x16 hk, h.a16 hk, h.a17 hk, h.a18 hk⟩, fun k hk => h.a19 hk⟩
theorem XB.w20 {σ : Sto} (h : XB σ) : WB σ 20 := ⟨h.o20, h.r20_0, h.r20_1, h.r20_2, h.r20_3, h.r20_5, fun k hk => ⟨h.x21 hk, h.a21 hk, h.x22 hk, h.a22 hk, h.a23 hk, h.a24 hk⟩, fun k hk => h.a25 hk⟩
/-- the parts that a way holds: number, place, low, high -/
abbrev Pt : Type := Int32 × Int32 × Int64 × Int64
def WY (σ : Sto) (w : Nat) (ps : List Pt) : Prop := gi σ w 4 = nI ps.length ∧ ∀ i q, ps[i]? = some q → gi σ (w + 1) i = q.1 ∧ gi σ (w + 2) i = q.2.1 ∧ gl σ (w + 3) i = q.2.2.1 ∧ gl σ (w + 4) i = q.2.2.2
def PX (σ : Sto) (t : Nat) (l : List Int32) : Prop := gi σ (28 + 2 * t) 7 = nI l.length ∧ ∀ i q, l[i]? = some q → gi σ (29 + 2 * t) i = q
def scQ (t : Nat) (σ σ' : Sto) : Prop := sn σ' = sn σ ∧ gl σ' = gl σ ∧ gr σ' = gr σ ∧ (∀ a k, ¬ (a = 28 + 2 * t ∧ k = 7) → a ≠ 29 + 2 * t → gi σ' a k = gi σ a k)
theorem scQ.rfl (t : Nat) (σ : Sto) : scQ t σ σ := ⟨Eq.refl _, Eq.refl _, Eq.refl _, fun _ _ _ _ => Eq.refl _⟩
theorem scQ.trans {t : Nat} {σ σ' σ'' : Sto} (h1 : scQ t σ σ') (h2 : scQ t σ' σ'') : scQ t σ σ'' := ⟨h2.1.trans h1.1, h2.2.1.trans h1.2.1, h2.2.2.1.trans h1.2.2.1, fun a k e1 e2 => (h2.2.2.2 a k e1 e2).trans (h1.2.2.2 a k e1 e2)⟩
theorem scQ.xb {t : Nat} {σ σ' : Sto} (h : scQ t σ σ') (hX : XB σ) : XB σ' := XB_of (Nat.le_of_eq h.1.symm) (fun a k _ _ => by rw [h.2.2.1]) hX
theorem X_takePath_loop {b : B3} {σ : Sto} {K : Sto → Prop} {t : Nat} {ps : List Pt} (hX : XB σ) (ht : t < 20) (hW : WY σ 20 ps) (hp : ps.length ≤ 60) : ∀ (n : Nat) (σ1 : Sto) (acc : List Int32) (u3 : AV), n ≤ ps.length → acc.length + n ≤ 60 → scQ t σ σ1 → PX σ1 t acc → (∀ σ2, scQ t σ σ2 → PX σ2 t (((ps.take n).reverse.map (fun q => q.2.1)).foldl ddS acc) → K σ2) → Ev b 48 12 [aR (some (28 + 2 * t)), aR (some 20), aI (nI n + (-1)), u3] [] σ1 (eV K) := by
  intro n
  induction n with
  | zero =>
    intro σ1 acc u3 hn hal hs hph h
    have c1 : nI 0 + (-1) < 0 := by decide
    rw [v_48_12]
    simp only [z10, z00, not_true_eq_false, not_false_eq_true, false_implies, true_implies, implies_true, nI_1, Int32.add_zero, true_or, or_true, true_and, and_true, eI_eq, eL_eq, eR_eq, eV_eq, lg_cmp_ge, lg_cmp_le, lg_cmp_gt, lg_cmp_lt, lg_cmp_eq, v_48_13, v_48_16, v_48_17, v_48_20, v_48_21, v_48_22, v_48_23, v_48_24, v_48_27, v_48_29, v_48_32, v_48_33, v_48_36, v_48_39, v_48_40, v_48_43, v_48_44, v_48_47, v_48_48, v_48_49, v_48_50, v_48_51, v_48_54, v_48_55, v_48_58, v_48_59, v_48_62, v_48_63, v_48_64, v_48_65, v_48_66, v_48_69, v_48_70, v_48_71, v_48_74, v_48_77, v_48_80, c1]
    exact h σ1 hs (by simpa using hph)
  | succ n ih =>
    intro σ1 acc u3 hn hal hs hph h
    have hX1 := hs.xb hX
    rw [pk_m1]
    have c1 : ¬ nI n < 0 := nI_pos (by omega)
    have hcn : (nI n).toNatClampNeg = n := nI_clamp (by omega)
    have hlt : n < ps.length := by omega
    have hq : ps[n]? = some ps[n] := List.getElem?_eq_getElem hlt
    obtain ⟨-, p2, -, -⟩ := hW.2 _ _ hq
    have etk : (ps.take (n + 1)).reverse = ps[n] :: (ps.take n).reverse := by
      rw [List.take_add_one, hq]
      simp
    rw [etk] at h
    generalize ps[n] = q at hq p2 h
    have e22 : gi σ1 22 n = q.2.1 := by rw [hs.2.2.2 22 n (by omega) (by omega)]; exact p2
    simp only [List.map_cons, List.foldl_cons] at h
    have c60 : ¬ (60 : Int32) ≤ nI acc.length := nI_ge (b := 60) (a := acc.length) (by omega) (by omega)
    have hca : (nI acc.length).toNatClampNeg = acc.length := nI_clamp (by omega)
    have push : ¬ acc.getLast? = some q.2.1 → Ev b 48 54 [aR (some (28 + 2 * t)), aR (some 20), aI (nI n), aI q.2.1] [] σ1 (eV K) := by
      intro hne
      have e7 : gi (si σ1 (29 + 2 * t) acc.length q.2.1) (28 + 2 * t) 7 = nI acc.length := by rw [gi_si_k, if_neg (by omega)]; exact hph.1
      simp only [z10, z00, not_true_eq_false, not_false_eq_true, false_implies, true_implies, implies_true, nI_1, Int32.add_zero, true_or, or_true, true_and, and_true, eI_eq, eL_eq, eR_eq, eV_eq, lg_cmp_ge, lg_cmp_le, lg_cmp_gt, lg_cmp_lt, lg_cmp_eq, v_48_54, v_48_55, v_48_58, v_48_59, v_48_62, v_48_63, v_48_64, v_48_65, v_48_66, v_48_69, v_48_70, v_48_71, v_48_74, v_48_77, hX1.oT ht, hX1.pa ht, hph.1, hX1.aP ht (show acc.length < 60 by omega), hca, okO_si, e7, nI_1]
      refine ih _ (acc ++ [q.2.1]) _ (by omega) (by simp only [List.length_append, List.length_cons, List.length_nil]; omega) (hs.trans ⟨rfl, rfl, rfl, fun a k e1 e2 => ?_⟩) ⟨?_, fun i q' hq' => ?_⟩ ?_
      · rw [gi_si_k, if_neg e1, gi_si_k, if_neg (fun z => e2 z.1)]
      · rw [gi_si_k, if_pos ⟨rfl, rfl⟩, List.length_append]; rfl
      · rw [gi_si_k, if_neg (by omega), gi_si_k]
        by_cases hi : i = acc.length
        · subst hi
          rw [List.getElem?_append_right (Nat.le_refl _), Nat.sub_self] at hq'
          cases hq'
          simp
        · have hlt : i < acc.length := by
            have := (List.getElem?_eq_some_iff.mp hq').1
            simp only [List.length_append, List.length_cons, List.length_nil] at this
            omega
          rw [if_neg (fun z => hi z.2)]
          rw [List.getElem?_append_left hlt] at hq'
          exact hph.2 i q' hq'
      · have e : ddS acc q.2.1 = acc ++ [q.2.1] := by unfold ddS; rw [if_neg hne]
        rw [e] at h
        exact h
    rw [v_48_12]
    simp only [z10, z00, not_true_eq_false, not_false_eq_true, false_implies, true_implies, implies_true, nI_1, Int32.add_zero, true_or, or_true, true_and, and_true, eI_eq, eL_eq, eR_eq, eV_eq, lg_cmp_ge, lg_cmp_le, lg_cmp_gt, lg_cmp_lt, lg_cmp_eq, v_48_13, v_48_16, v_48_17, v_48_20, v_48_21, v_48_22, v_48_23, v_48_24, v_48_27, v_48_29, v_48_32, v_48_33, v_48_36, c1, hX1.o20, hX1.r20_1, hX1.x22 (k := n) (by omega), hcn, e22, hX1.oT ht, hph.1, c60]
    cases acc with
    | nil =>
      have c2 : nI ([] : List Int32).length = 0 := by decide
      refine ⟨fun _ => push (by simp), fun g => absurd c2 g⟩
    | cons a acc =>
      have c2 : ¬ nI (a :: acc).length = 0 := nI_ne0 (by simp) (by omega)
      refine ⟨fun g => absurd g c2, fun _ => ?_⟩
      have ex : nI (a :: acc).length - 1 = nI ((a :: acc).length - 1) := by
        rw [show (1 : Int32) = nI 1 from rfl, pk_sub (by simp only [List.length_cons]; omega)]
      have hcx2 : (nI ((a :: acc).length - 1)).toNatClampNeg = (a :: acc).length - 1 := nI_clamp (by omega)
      have hlast : (a :: acc)[(a :: acc).length - 1]? = (a :: acc).getLast? := by rw [List.getLast?_eq_getElem?]
      obtain ⟨z, hz⟩ : ∃ z, (a :: acc).getLast? = some z := ⟨_, List.getLast?_eq_some_getLast (by simp)⟩
      have e98 := hph.2 _ z (hlast.trans hz)
      simp only [z10, z00, not_true_eq_false, not_false_eq_true, false_implies, true_implies, implies_true, nI_1, Int32.add_zero, true_or, or_true, true_and, and_true, eI_eq, eL_eq, eR_eq, eV_eq, lg_cmp_ge, lg_cmp_le, lg_cmp_gt, lg_cmp_lt, lg_cmp_eq, v_48_39, v_48_40, v_48_43, v_48_44, v_48_47, v_48_48, v_48_49, v_48_50, v_48_51, v_48_74, v_48_77, hX1.oT ht, hX1.pa ht, hph.1, ex, hX1.xP ht (show (a :: acc).length - 1 < 60 by omega), hcx2, e98]
      refine ⟨fun g => ?_, fun g => push (by rw [hz]; simpa using g)⟩
      have e : ddS (a :: acc) q.2.1 = a :: acc := by unfold ddS; rw [hz, if_pos (by rw [g])]
      rw [e] at h
      exact ih _ (a :: acc) _ (by omega) (by omega) hs hph h
theorem X_takePath {d : Nat} {σ : Sto} {K : Sto → Prop} {t : Nat} {ps : List Pt} (hX : XB σ) (ht : t < 20) (hW : WY σ 20 ps) (hp : ps.length ≤ 60) (h : ∀ σ2, scQ t σ σ2 → PX σ2 t ((ps.reverse.map (fun q => q.2.1)).foldl ddS []) → K σ2) : CV d 48 [aR (some (28 + 2 * t)), aR (some 20)] σ K := by
  refine CV_of ?_
  show Ev (d, 0, 0) 48 0 [aR (some (28 + 2 * t)), aR (some 20), aU, aU] [] σ _
  have e4 : gi (si σ (28 + 2 * t) 7 0) 20 4 = nI ps.length := by rw [gi_si_k, if_neg (by omega)]; exact hW.1
  have e1 : nI ps.length - 1 = nI ps.length + (-1) := by
    cases ps.length with
    | zero => decide
    | succ n => rw [pk_m1, nI_pred]
  simp only [z10, z00, not_true_eq_false, not_false_eq_true, false_implies, true_implies, implies_true, nI_1, Int32.add_zero, true_or, or_true, true_and, and_true, eI_eq, eL_eq, eR_eq, eV_eq, lg_cmp_ge, lg_cmp_le, lg_cmp_gt, lg_cmp_lt, lg_cmp_eq, v_48_0, v_48_1, v_48_2, v_48_5, v_48_6, v_48_9, v_48_10, v_48_11, hX.oT ht, hX.o20, okO_si, e4, e1]
  refine X_takePath_loop hX ht hW hp ps.length _ [] _ (by omega) (by simpa using hp) ⟨rfl, rfl, rfl, fun a k q _ => by rw [gi_si_k, if_neg q]⟩ ⟨by rw [gi_si_k, if_pos ⟨rfl, rfl⟩]; rfl, fun i q e => by cases e⟩ (fun σ2 h1 h2 => ?_)
  rw [List.take_length] at h2
  exact h σ2 h1 h2
theorem X_hasPathOf_loop {b : B3} {σ : Sto} {K : Int32 → Sto → Prop} {s t : Nat} {l m : List Int32} (hX : XB σ) (hs : s < 20) (ht : t < 20) (hl : PX σ s l) (hm : PX σ t m) (hl2 : l.length ≤ 60) (he : l.length = m.length) : ∀ (l' m' : List Int32) (k : Nat), l.drop k = l' → m.drop k = m' → k ≤ l.length → K (bI (eqL l' m')) σ → Ev b 49 15 [aR (some (28 + 2 * s)), aR (some (28 + 2 * t)), aI (nI k)] [] σ (eI K) := by
  intro l'
  induction l' with
  | nil =>
    intro m' k hd hd2 hk h
    have hk' : k = l.length := by
      have := congrArg List.length hd
      simp only [List.length_drop, List.length_nil] at this
      omega
    subst hk'
    have hm' : m' = [] := by rw [← hd2, he, List.drop_length]
    subst hm'
    have hle : nI l.length ≤ nI l.length := Int32.le_refl _
    rw [v_49_15]
    simp only [z10, z00, not_true_eq_false, not_false_eq_true, false_implies, true_implies, implies_true, nI_1, Int32.add_zero, true_or, or_true, true_and, and_true, eI_eq, eL_eq, eR_eq, eV_eq, lg_cmp_ge, lg_cmp_le, lg_cmp_gt, lg_cmp_lt, lg_cmp_eq, v_49_16, v_49_17, v_49_20, v_49_23, v_49_24, v_49_27, v_49_28, v_49_29, v_49_30, v_49_33, v_49_34, v_49_35, v_49_38, v_49_39, v_49_40, v_49_43, v_49_46, v_49_47, hX.oT hs, hl.1, hle]
    exact h
  | cons a l' ih =>
    intro m' k hd hd2 hk h
    have hlt : k < l.length := by
      have := congrArg List.length hd
      simp only [List.length_drop, List.length_cons] at this
      omega
    have hq : l[k]? = some a := by
      have := congrArg (fun z => z[0]?) hd
      simpa [List.getElem?_drop] using this
    have hd' : l.drop (k + 1) = l' := by
      have := congrArg List.tail hd
      simpa [List.tail_drop] using this
    cases m' with
    | nil =>
      have := congrArg List.length hd2
      simp only [List.length_drop, List.length_nil] at this
      omega
    | cons b' m' =>
      have hq2 : m[k]? = some b' := by
        have := congrArg (fun z => z[0]?) hd2
        simpa [List.getElem?_drop] using this
      have hd2' : m.drop (k + 1) = m' := by
        have := congrArg List.tail hd2
        simpa [List.tail_drop] using this
      have hle : ¬ nI l.length ≤ nI k := nI_ge (by omega) (by omega)
      have hck : (nI k).toNatClampNeg = k := nI_clamp (by omega)
      rw [v_49_15]
      simp only [z10, z00, not_true_eq_false, not_false_eq_true, false_implies, true_implies, implies_true, nI_1, Int32.add_zero, true_or, or_true, true_and, and_true, eI_eq, eL_eq, eR_eq, eV_eq, lg_cmp_ge, lg_cmp_le, lg_cmp_gt, lg_cmp_lt, lg_cmp_eq, v_49_16, v_49_17, v_49_20, v_49_23, v_49_24, v_49_27, v_49_28, v_49_29, v_49_30, v_49_33, v_49_34, v_49_35, v_49_38, v_49_39, v_49_40, v_49_43, v_49_46, v_49_47, hX.oT hs, hX.oT ht, hX.pa hs, hX.pa ht, hX.xP hs (show k < 60 by omega), hX.xP ht (show k < 60 by omega), hck, hl.1, hle, hl.2 k a hq, hm.2 k b' hq2]
      simp only [eqL] at h
      exact ⟨fun q => ih m' (k + 1) hd' hd2' (by omega) (by simpa [q] using h), fun q => by simpa [q, bI] using h⟩
theorem X_hasPathOf {d : Nat} {σ : Sto} {K : Int32 → Sto → Prop} {s t : Nat} {l m : List Int32} (hX : XB σ) (hs : s < 20) (ht : t < 20) (hl : PX σ s l) (hm : PX σ t m) (hl2 : l.length ≤ 60) (hm2 : m.length ≤ 60) (h : K (bI (eqL l m)) σ) : CI d 49 [aR (some (28 + 2 * s)), aR (some (28 + 2 * t))] σ K := by
  refine CI_of ?_
  show Ev (d, 0, 0) 49 0 [aR (some (28 + 2 * s)), aR (some (28 + 2 * t)), aU] [] σ _
  simp only [z10, z00, not_true_eq_false, not_false_eq_true, false_implies, true_implies, implies_true, nI_1, Int32.add_zero, true_or, or_true, true_and, and_true, eI_eq, eL_eq, eR_eq, eV_eq, lg_cmp_ge, lg_cmp_le, lg_cmp_gt, lg_cmp_lt, lg_cmp_eq, v_49_0, v_49_1, v_49_4, v_49_5, v_49_8, v_49_11, v_49_12, v_49_13, v_49_14, hX.oT hs, hX.oT ht, hl.1, hm.1, nI_eq (show l.length < 2 ^ 31 by omega) (show m.length < 2 ^ 31 by omega)]
  refine ⟨fun g => ?_, fun g => ?_⟩
  · have := X_hasPathOf_loop (b := (d, 0, 0)) (K := K) hX hs ht hl hm hl2 g l m 0 rfl rfl (by omega) h
    simpa only [nI_0] using this
  · rw [eqL_len l m g] at h
    exact h
