/-! the class: what stays over a question -/
section
variable {σ σ' : Sto} {l : List Nat}
theorem XQ.ki (h : XQ σ σ') (hl : ∀ a, a ∈ l → 103 ≤ a) {x : Int32} : ∀ a, a ∈ l → kiX σ' l x a = kiX σ l x a := fun a ha => by
  unfold kiX; rw [h.u hl, h.2.2.2.1 a 1 (hl a ha) (by decide)]
theorem XQ.ro (h : XQ σ σ') (hl : ∀ a, a ∈ l → 103 ≤ a) : ∀ a, a ∈ l → roX σ' l a = roX σ l a := fun a ha => by
  unfold roX; rw [h.u hl]
theorem XQ.lo (h : XQ σ σ') (hl : ∀ a, a ∈ l → 103 ≤ a) : ∀ a, a ∈ l → loX σ' l a = loX σ l a := fun a ha => by
  unfold loX; rw [h.u hl]
theorem XQ.ho (h : XQ σ σ') (hl : ∀ a, a ∈ l → 103 ≤ a) : ∀ a, a ∈ l → hoX σ' l a = hoX σ l a := fun a ha => by
  unfold hoX; rw [h.u hl, h.2.2.2.1 a 1 (hl a ha) (by decide)]
theorem XQ.pr (h : XQ σ σ') (hl : ∀ a, a ∈ l → 103 ≤ a) : ∀ a, a ∈ l → prX σ' l a = prX σ l a := fun a ha => by
  unfold prX paX
  rw [h.u hl]
  cases hu : uX σ l a with
  | none => rfl
  | some p => simp only [h.rw (hl a ha), h.rw (hl p (uX_mem hu))]
theorem XQ.fp (h : XQ σ σ') {a : Nat} (ha : 103 ≤ a) : ∀ (m : List Nat), (∀ b, b ∈ m → 103 ≤ b) → fpX σ' a m = fpX σ a m
  | [], _ => Eq.refl _
  | b :: m, hm => by
    rw [fpX, fpX, h.2.2.2.1 a 1 ha (by decide), h.2.2.2.1 b 1 (hm b (List.mem_cons_self ..)) (by decide), XQ.fp h ha m (fun c hc => hm c (List.mem_cons_of_mem _ hc))]
theorem XQ.hf (h : XQ σ σ') (hl : ∀ a, a ∈ l → 103 ≤ a) : ∀ a, a ∈ l → hfX σ' l a = hfX σ l a := fun a ha => by
  unfold hfX; rw [h.ho hl a ha, h.fp (hl a ha) l hl]
end
theorem cP_congr {α : Type} {p q : α → Bool} : ∀ {l : List α}, (∀ a, a ∈ l → p a = q a) → l.countP p = l.countP q
  | [], _ => rfl
  | a :: l, h => by
    rw [List.countP_cons, List.countP_cons, h a (List.mem_cons_self ..), cP_congr (fun b hb => h b (List.mem_cons_of_mem _ hb))]
theorem atL_congr {p q : Nat → Bool} : ∀ {l : List Nat} {i : Int32}, (∀ a, a ∈ l → p a = q a) → atL p i l = atL q i l
  | [], _, _ => rfl
  | a :: l, i, h => by
    rw [atL, atL, h a (List.mem_cons_self ..), atL_congr (fun b hb => h b (List.mem_cons_of_mem _ hb)), atL_congr (i := i) (fun b hb => h b (List.mem_cons_of_mem _ hb))]
theorem atL_mem {p : Nat → Bool} : ∀ {l : List Nat} {i : Int32} {a : Nat}, atL p i l = some a → a ∈ l
  | [], _, _, h => by cases h
  | b :: l, i, a, h => by
    unfold atL at h
    split at h
    · split at h
      · cases h; exact List.mem_cons_self ..
      · exact List.mem_cons_of_mem _ (atL_mem h)
    · exact List.mem_cons_of_mem _ (atL_mem h)
theorem nuO_of {σ σ' : Sto} (h : XQ σ σ') {r : Option Nat} (hr : ∀ a, r = some a → 103 ≤ a) : nuO σ' r = nuO σ r := by
  cases r with
  | none => rfl
  | some a => exact h.2.2.2.1 a 0 (hr a rfl) (by decide)
theorem roI_mem {u : Nat → Option Nat} {l : List Nat} (hu : ∀ a c, u a = some c → c ∈ l) : ∀ (f a d : Nat), a ∈ l → (clI u f a d).1 ∈ l
  | 0, a, d, h => h
  | f + 1, a, d, h => by
    unfold clI
    cases hc : u a with
    | none => exact h
    | some b => exact roI_mem hu f b (d + 1) (hu a b hc)
theorem roX_mem {σ : Sto} {l : List Nat} {a r : Nat} (ha : a ∈ l) (h : roI (uX σ l) a = some r) : r ∈ l := by
  unfold roI at h
  split at h
  · cases h
  · cases h
    exact roI_mem (fun a c h => uX_mem h) 31 a 0 ha
/-! the class: questions of one trace -/
theorem X_spans {d : Nat} {σ : Sto} {x : Int32} {K : Int32 → Sto → Prop} {L : Nat → List Nat} (hI : XI σ L) (h0 : (x < 0 ∨ 20 ≤ x) → K (-1) σ) (h : ∀ t, t < 20 → x = nI t → K (nI (L t).length) σ) : CI (d + 1) 61 [aR (some 1), aI x] σ K := by
  refine CI_of ?_
  show Ev (d + 1, 0, 0) 61 0 [aR (some 1), aI x, aU] [] σ _
  simp only [z10, z00, not_true_eq_false, not_false_eq_true, false_implies, true_implies, implies_true, nI_1, Int32.add_zero, true_or, or_true, true_and, and_true, eI_eq, eL_eq, eR_eq, eV_eq, lg_cmp_ge, lg_cmp_le, lg_cmp_gt, lg_cmp_lt, lg_cmp_eq, v_61_0, v_61_1, v_61_2, v_61_5, v_61_6, v_61_7, v_61_10, v_61_11, v_61_14, v_61_15, v_61_18, hI.xb.o1]
  refine X_traceAt hI.xb (fun c => ?_) (fun t ht e => ?_)
  · simp only [reduceCtorEq, z10, z00, not_true_eq_false, not_false_eq_true, false_implies, true_implies, implies_true, true_and, and_true, true_or, or_true, false_and, and_false, false_or, or_false]; exact h0 c
  · simp only [reduceCtorEq, z10, z00, not_true_eq_false, not_false_eq_true, false_implies, true_implies, implies_true, nI_1, Int32.add_zero, true_or, or_true, true_and, and_true, eI_eq, eL_eq, eR_eq, eV_eq, lg_cmp_ge, lg_cmp_le, lg_cmp_gt, lg_cmp_lt, lg_cmp_eq, v_61_0, v_61_1, v_61_2, v_61_5, v_61_6, v_61_7, v_61_10, v_61_11, v_61_14, v_61_15, v_61_18, hI.xb.oT ht, hI.n ht]; exact h t ht e
def spX (σ : Sto) (l : List Nat) (n : Int32) (a : Nat) (w : Int32) : Int32 :=
  if w = 0 then gi σ a 1 else if w = 1 then gi σ a 2 else if w = 2 then gi σ a 3 else if w = 3 then gi σ a 4 else if w = 4 then gi σ a 5
  else if w = 5 then bI (hoX σ l a) else if w = 6 then (match roI (uX σ l) a with
    | none => -2
    | some _ => nI (deI (uX σ l) a)) else if w = 7 then (match roI (uX σ l) a with
    | none => -2
    | some i => gi σ i 0) else if w = 8 then nI (l.countP (kiX σ l n)) else -1
theorem sw8 {w : Int32} (hw : 0 ≤ w.toInt ∧ w.toInt ≤ 8) : w = 0 ∨ w = 1 ∨ w = 2 ∨ w = 3 ∨ w = 4 ∨ w = 5 ∨ w = 6 ∨ w = 7 ∨ w = 8 := by
  have e : w.toInt = 0 ∨ w.toInt = 1 ∨ w.toInt = 2 ∨ w.toInt = 3 ∨ w.toInt = 4 ∨ w.toInt = 5 ∨ w.toInt = 6 ∨ w.toInt = 7 ∨ w.toInt = 8 := by omega
  rcases e with e | e | e | e | e | e | e | e | e
  · exact Or.inl (of_toInt e)
  · exact Or.inr (Or.inl (of_toInt e))
  · exact Or.inr (Or.inr (Or.inl (of_toInt e)))
  · exact Or.inr (Or.inr (Or.inr (Or.inl (of_toInt e))))
  · exact Or.inr (Or.inr (Or.inr (Or.inr (Or.inl (of_toInt e)))))
  · exact Or.inr (Or.inr (Or.inr (Or.inr (Or.inr (Or.inl (of_toInt e))))))
  · exact Or.inr (Or.inr (Or.inr (Or.inr (Or.inr (Or.inr (Or.inl (of_toInt e)))))))
  · exact Or.inr (Or.inr (Or.inr (Or.inr (Or.inr (Or.inr (Or.inr (Or.inl (of_toInt e))))))))
  · exact Or.inr (Or.inr (Or.inr (Or.inr (Or.inr (Or.inr (Or.inr (Or.inr (of_toInt e))))))))
theorem X_span {d : Nat} {σ : Sto} {x n w : Int32} {K : Int32 → Sto → Prop} {L : Nat → List Nat} (hI : XI σ L) (h0 : (x < 0 ∨ 20 ≤ x) → K (-1) σ) (h : ∀ t, t < 20 → x = nI t → ∀ σ', XQ σ σ' → XI σ' L → K (match (L t).find? (nuX σ n) with
    | none => -1
    | some a => spX σ (L t) n a w) σ') : CI (d + 3) 62 [aR (some 1), aI x, aI n, aI w] σ K := by
  refine CI_of ?_
  show Ev (d + 3, 0, 0) 62 0 [aR (some 1), aI x, aI n, aI w, aU, aU] [] σ _
  simp only [z10, z00, not_true_eq_false, not_false_eq_true, false_implies, true_implies, implies_true, nI_1, Int32.add_zero, true_or, or_true, true_and, and_true, eI_eq, eL_eq, eR_eq, eV_eq, lg_cmp_ge, lg_cmp_le, lg_cmp_gt, lg_cmp_lt, lg_cmp_eq, v_62_0, v_62_1, v_62_2, v_62_5, v_62_7, v_62_9, v_62_10, v_62_13, v_62_15, v_62_17, v_62_20, v_62_22, v_62_25, v_62_26, v_62_27, v_62_80, v_62_82, v_62_85, v_62_86, v_62_88, v_62_91, v_62_92, v_62_94, v_62_97, v_62_98, v_62_100, v_62_103, v_62_104, v_62_106, v_62_109, v_62_110, v_62_112, v_62_115, v_62_118, v_62_119, v_62_122, v_62_123, v_62_124, v_62_126, v_62_129, v_62_132, v_62_134, v_62_137, v_62_139, v_62_142, v_62_143, v_62_145, v_62_148, v_62_151, v_62_153, v_62_156, v_62_158, v_62_161, v_62_164, v_62_165, v_62_167, v_62_168, v_62_171, v_62_172, v_62_173, hI.xb.o1]
  refine X_traceAt hI.xb (fun c => ?_) (fun t ht e => ?_)
  · refine X_spanAt0 ?_
    simp only [z10, z00, not_true_eq_false, not_false_eq_true, false_implies, true_implies, implies_true, nI_1, Int32.add_zero, true_or, or_true, true_and, and_true, eI_eq, eL_eq, eR_eq, eV_eq, lg_cmp_ge, lg_cmp_le, lg_cmp_gt, lg_cmp_lt, lg_cmp_eq, v_62_0, v_62_1, v_62_2, v_62_5, v_62_7, v_62_9, v_62_10, v_62_13, v_62_15, v_62_17, v_62_20, v_62_22, v_62_25, v_62_26, v_62_27, v_62_80, v_62_82, v_62_85, v_62_86, v_62_88, v_62_91, v_62_92, v_62_94, v_62_97, v_62_98, v_62_100, v_62_103, v_62_104, v_62_106, v_62_109, v_62_110, v_62_112, v_62_115, v_62_118, v_62_119, v_62_122, v_62_123, v_62_124, v_62_126, v_62_129, v_62_132, v_62_134, v_62_137, v_62_139, v_62_142, v_62_143, v_62_145, v_62_148, v_62_151, v_62_153, v_62_156, v_62_158, v_62_161, v_62_164, v_62_165, v_62_167, v_62_168, v_62_171, v_62_172, v_62_173, z10, z00, not_true_eq_false, not_false_eq_true, false_implies, true_implies, implies_true, true_and, and_true, true_or, or_true, false_and, and_false, false_or, or_false]
    exact h0 c
  refine X_spanAt hI ht (fun σ' hq hI' hS => ?_)
  have h' := h t ht e σ' hq hI'
  have hg := hI.g ht
  cases hf : (L t).find? (nuX σ n) with
  | none =>
    rw [hf] at h'
    simp only [z10, z00, not_true_eq_false, not_false_eq_true, false_implies, true_implies, implies_true, nI_1, Int32.add_zero, true_or, or_true, true_and, and_true, eI_eq, eL_eq, eR_eq, eV_eq, lg_cmp_ge, lg_cmp_le, lg_cmp_gt, lg_cmp_lt, lg_cmp_eq, v_62_0, v_62_1, v_62_2, v_62_5, v_62_7, v_62_9, v_62_10, v_62_13, v_62_15, v_62_17, v_62_20, v_62_22, v_62_25, v_62_26, v_62_27, v_62_80, v_62_82, v_62_85, v_62_86, v_62_88, v_62_91, v_62_92, v_62_94, v_62_97, v_62_98, v_62_100, v_62_103, v_62_104, v_62_106, v_62_109, v_62_110, v_62_112, v_62_115, v_62_118, v_62_119, v_62_122, v_62_123, v_62_124, v_62_126, v_62_129, v_62_132, v_62_134, v_62_137, v_62_139, v_62_142, v_62_143, v_62_145, v_62_148, v_62_151, v_62_153, v_62_156, v_62_158, v_62_161, v_62_164, v_62_165, v_62_167, v_62_168, v_62_171, v_62_172, v_62_173, reduceCtorEq]
    exact h'
  | some a =>
    have ha : a ∈ L t := List.mem_of_find?_eq_some hf
    have haO := (hI'.t ht).ok a ha
    have h3 := hg a ha
    have hrw := hq.2.2.2.1 a
    obtain ⟨s1, s2, s3⟩ := hS a ha
    rw [hq.u hg] at s1 s2 s3
    rw [hf] at h'
    simp only [z10, z00, not_true_eq_false, not_false_eq_true, false_implies, true_implies, implies_true, nI_1, Int32.add_zero, true_or, or_true, true_and, and_true, eI_eq, eL_eq, eR_eq, eV_eq, lg_cmp_ge, lg_cmp_le, lg_cmp_gt, lg_cmp_lt, lg_cmp_eq, v_62_0, v_62_1, v_62_2, v_62_5, v_62_7, v_62_9, v_62_10, v_62_13, v_62_15, v_62_17, v_62_20, v_62_22, v_62_25, v_62_26, v_62_27, v_62_80, v_62_82, v_62_85, v_62_86, v_62_88, v_62_91, v_62_92, v_62_94, v_62_97, v_62_98, v_62_100, v_62_103, v_62_104, v_62_106, v_62_109, v_62_110, v_62_112, v_62_115, v_62_118, v_62_119, v_62_122, v_62_123, v_62_124, v_62_126, v_62_129, v_62_132, v_62_134, v_62_137, v_62_139, v_62_142, v_62_143, v_62_145, v_62_148, v_62_151, v_62_153, v_62_156, v_62_158, v_62_161, v_62_164, v_62_165, v_62_167, v_62_168, v_62_171, v_62_172, v_62_173, reduceCtorEq]
    by_cases hw : 0 ≤ w.toInt ∧ w.toInt ≤ 8
    · rcases sw8 hw with rfl | rfl | rfl | rfl | rfl | rfl | rfl | rfl | rfl
      · simp only [v_62_28_0, z10, z00, not_true_eq_false, not_false_eq_true, false_implies, true_implies, implies_true, nI_1, Int32.add_zero, true_or, or_true, true_and, and_true, eI_eq, eL_eq, eR_eq, eV_eq, lg_cmp_ge, lg_cmp_le, lg_cmp_gt, lg_cmp_lt, lg_cmp_eq, v_62_0, v_62_1, v_62_2, v_62_5, v_62_7, v_62_9, v_62_10, v_62_13, v_62_15, v_62_17, v_62_20, v_62_22, v_62_25, v_62_26, v_62_27, v_62_80, v_62_82, v_62_85, v_62_86, v_62_88, v_62_91, v_62_92, v_62_94, v_62_97, v_62_98, v_62_100, v_62_103, v_62_104, v_62_106, v_62_109, v_62_110, v_62_112, v_62_115, v_62_118, v_62_119, v_62_122, v_62_123, v_62_124, v_62_126, v_62_129, v_62_132, v_62_134, v_62_137, v_62_139, v_62_142, v_62_143, v_62_145, v_62_148, v_62_151, v_62_153, v_62_156, v_62_158, v_62_161, v_62_164, v_62_165, v_62_167, v_62_168, v_62_171, v_62_172, v_62_173, haO, hrw 1 h3 (by decide)]; simpa [spX] using h'
      · simp only [v_62_28_1, z10, z00, not_true_eq_false, not_false_eq_true, false_implies, true_implies, implies_true, nI_1, Int32.add_zero, true_or, or_true, true_and, and_true, eI_eq, eL_eq, eR_eq, eV_eq, lg_cmp_ge, lg_cmp_le, lg_cmp_gt, lg_cmp_lt, lg_cmp_eq, v_62_0, v_62_1, v_62_2, v_62_5, v_62_7, v_62_9, v_62_10, v_62_13, v_62_15, v_62_17, v_62_20, v_62_22, v_62_25, v_62_26, v_62_27, v_62_80, v_62_82, v_62_85, v_62_86, v_62_88, v_62_91, v_62_92, v_62_94, v_62_97, v_62_98, v_62_100, v_62_103, v_62_104, v_62_106, v_62_109, v_62_110, v_62_112, v_62_115, v_62_118, v_62_119, v_62_122, v_62_123, v_62_124, v_62_126, v_62_129, v_62_132, v_62_134, v_62_137, v_62_139, v_62_142, v_62_143, v_62_145, v_62_148, v_62_151, v_62_153, v_62_156, v_62_158, v_62_161, v_62_164, v_62_165, v_62_167, v_62_168, v_62_171, v_62_172, v_62_173, haO, hrw 2 h3 (by decide)]; simpa [spX] using h'
      · simp only [v_62_28_2, z10, z00, not_true_eq_false, not_false_eq_true, false_implies, true_implies, implies_true, nI_1, Int32.add_zero, true_or, or_true, true_and, and_true, eI_eq, eL_eq, eR_eq, eV_eq, lg_cmp_ge, lg_cmp_le, lg_cmp_gt, lg_cmp_lt, lg_cmp_eq, v_62_0, v_62_1, v_62_2, v_62_5, v_62_7, v_62_9, v_62_10, v_62_13, v_62_15, v_62_17, v_62_20, v_62_22, v_62_25, v_62_26, v_62_27, v_62_80, v_62_82, v_62_85, v_62_86, v_62_88, v_62_91, v_62_92, v_62_94, v_62_97, v_62_98, v_62_100, v_62_103, v_62_104, v_62_106, v_62_109, v_62_110, v_62_112, v_62_115, v_62_118, v_62_119, v_62_122, v_62_123, v_62_124, v_62_126, v_62_129, v_62_132, v_62_134, v_62_137, v_62_139, v_62_142, v_62_143, v_62_145, v_62_148, v_62_151, v_62_153, v_62_156, v_62_158, v_62_161, v_62_164, v_62_165, v_62_167, v_62_168, v_62_171, v_62_172, v_62_173, haO, hrw 3 h3 (by decide)]; simpa [spX] using h'
      · simp only [v_62_28_3, z10, z00, not_true_eq_false, not_false_eq_true, false_implies, true_implies, implies_true, nI_1, Int32.add_zero, true_or, or_true, true_and, and_true, eI_eq, eL_eq, eR_eq, eV_eq, lg_cmp_ge, lg_cmp_le, lg_cmp_gt, lg_cmp_lt, lg_cmp_eq, v_62_0, v_62_1, v_62_2, v_62_5, v_62_7, v_62_9, v_62_10, v_62_13, v_62_15, v_62_17, v_62_20, v_62_22, v_62_25, v_62_26, v_62_27, v_62_80, v_62_82, v_62_85, v_62_86, v_62_88, v_62_91, v_62_92, v_62_94, v_62_97, v_62_98, v_62_100, v_62_103, v_62_104, v_62_106, v_62_109, v_62_110, v_62_112, v_62_115, v_62_118, v_62_119, v_62_122, v_62_123, v_62_124, v_62_126, v_62_129, v_62_132, v_62_134, v_62_137, v_62_139, v_62_142, v_62_143, v_62_145, v_62_148, v_62_151, v_62_153, v_62_156, v_62_158, v_62_161, v_62_164, v_62_165, v_62_167, v_62_168, v_62_171, v_62_172, v_62_173, haO, hrw 4 h3 (by decide)]; simpa [spX] using h'
      · simp only [v_62_28_4, z10, z00, not_true_eq_false, not_false_eq_true, false_implies, true_implies, implies_true, nI_1, Int32.add_zero, true_or, or_true, true_and, and_true, eI_eq, eL_eq, eR_eq, eV_eq, lg_cmp_ge, lg_cmp_le, lg_cmp_gt, lg_cmp_lt, lg_cmp_eq, v_62_0, v_62_1, v_62_2, v_62_5, v_62_7, v_62_9, v_62_10, v_62_13, v_62_15, v_62_17, v_62_20, v_62_22, v_62_25, v_62_26, v_62_27, v_62_80, v_62_82, v_62_85, v_62_86, v_62_88, v_62_91, v_62_92, v_62_94, v_62_97, v_62_98, v_62_100, v_62_103, v_62_104, v_62_106, v_62_109, v_62_110, v_62_112, v_62_115, v_62_118, v_62_119, v_62_122, v_62_123, v_62_124, v_62_126, v_62_129, v_62_132, v_62_134, v_62_137, v_62_139, v_62_142, v_62_143, v_62_145, v_62_148, v_62_151, v_62_153, v_62_156, v_62_158, v_62_161, v_62_164, v_62_165, v_62_167, v_62_168, v_62_171, v_62_172, v_62_173, haO, hrw 5 h3 (by decide)]; simpa [spX] using h'
      · simp only [v_62_28_5, z10, z00, not_true_eq_false, not_false_eq_true, false_implies, true_implies, implies_true, nI_1, Int32.add_zero, true_or, or_true, true_and, and_true, eI_eq, eL_eq, eR_eq, eV_eq, lg_cmp_ge, lg_cmp_le, lg_cmp_gt, lg_cmp_lt, lg_cmp_eq, v_62_0, v_62_1, v_62_2, v_62_5, v_62_7, v_62_9, v_62_10, v_62_13, v_62_15, v_62_17, v_62_20, v_62_22, v_62_25, v_62_26, v_62_27, v_62_80, v_62_82, v_62_85, v_62_86, v_62_88, v_62_91, v_62_92, v_62_94, v_62_97, v_62_98, v_62_100, v_62_103, v_62_104, v_62_106, v_62_109, v_62_110, v_62_112, v_62_115, v_62_118, v_62_119, v_62_122, v_62_123, v_62_124, v_62_126, v_62_129, v_62_132, v_62_134, v_62_137, v_62_139, v_62_142, v_62_143, v_62_145, v_62_148, v_62_151, v_62_153, v_62_156, v_62_158, v_62_161, v_62_164, v_62_165, v_62_167, v_62_168, v_62_171, v_62_172, v_62_173, haO]
        refine X_hasHole haO ?_
        rw [s1, hrw 1 h3 (by decide)]
        simp only [spX] at h'
        cases hb : hoX σ (L t) a with
        | true =>
          have hb' := hb
          simp only [hoX] at hb'
          rw [hb']
          simpa [bI, hb] using h'
        | false =>
          have hb' := hb
          simp only [hoX] at hb'
          rw [hb']
          simpa [bI, hb] using h'
      · simp only [v_62_28_6, z10, z00, not_true_eq_false, not_false_eq_true, false_implies, true_implies, implies_true, nI_1, Int32.add_zero, true_or, or_true, true_and, and_true, eI_eq, eL_eq, eR_eq, eV_eq, lg_cmp_ge, lg_cmp_le, lg_cmp_gt, lg_cmp_lt, lg_cmp_eq, v_62_0, v_62_1, v_62_2, v_62_5, v_62_7, v_62_9, v_62_10, v_62_13, v_62_15, v_62_17, v_62_20, v_62_22, v_62_25, v_62_26, v_62_27, v_62_80, v_62_82, v_62_85, v_62_86, v_62_88, v_62_91, v_62_92, v_62_94, v_62_97, v_62_98, v_62_100, v_62_103, v_62_104, v_62_106, v_62_109, v_62_110, v_62_112, v_62_115, v_62_118, v_62_119, v_62_122, v_62_123, v_62_124, v_62_126, v_62_129, v_62_132, v_62_134, v_62_137, v_62_139, v_62_142, v_62_143, v_62_145, v_62_148, v_62_151, v_62_153, v_62_156, v_62_158, v_62_161, v_62_164, v_62_165, v_62_167, v_62_168, v_62_171, v_62_172, v_62_173, haO, s2]
        cases hr : roI (uX σ (L t)) a with
        | none => simp only [z10, z00, not_true_eq_false, not_false_eq_true, false_implies, true_implies, implies_true, true_and, and_true, true_or, or_true, false_and, and_false, false_or, or_false]; simpa [spX, hr] using h'
        | some r =>
          simp only [reduceCtorEq, z10, z00, not_true_eq_false, not_false_eq_true, false_implies, true_implies, implies_true, true_and, and_true, true_or, or_true, false_and, and_false, false_or, or_false]
          have e11 := s3 (by rw [hr]; exact Option.some_ne_none r)
          rw [e11]
          simpa [spX, hr] using h'
      · simp only [v_62_28_7, z10, z00, not_true_eq_false, not_false_eq_true, false_implies, true_implies, implies_true, nI_1, Int32.add_zero, true_or, or_true, true_and, and_true, eI_eq, eL_eq, eR_eq, eV_eq, lg_cmp_ge, lg_cmp_le, lg_cmp_gt, lg_cmp_lt, lg_cmp_eq, v_62_0, v_62_1, v_62_2, v_62_5, v_62_7, v_62_9, v_62_10, v_62_13, v_62_15, v_62_17, v_62_20, v_62_22, v_62_25, v_62_26, v_62_27, v_62_80, v_62_82, v_62_85, v_62_86, v_62_88, v_62_91, v_62_92, v_62_94, v_62_97, v_62_98, v_62_100, v_62_103, v_62_104, v_62_106, v_62_109, v_62_110, v_62_112, v_62_115, v_62_118, v_62_119, v_62_122, v_62_123, v_62_124, v_62_126, v_62_129, v_62_132, v_62_134, v_62_137, v_62_139, v_62_142, v_62_143, v_62_145, v_62_148, v_62_151, v_62_153, v_62_156, v_62_158, v_62_161, v_62_164, v_62_165, v_62_167, v_62_168, v_62_171, v_62_172, v_62_173, haO, s2]
        cases hr : roI (uX σ (L t)) a with
        | none => simp only [z10, z00, not_true_eq_false, not_false_eq_true, false_implies, true_implies, implies_true, true_and, and_true, true_or, or_true, false_and, and_false, false_or, or_false]; simpa [spX, hr] using h'
        | some r =>
          have hrm := roX_mem ha hr
          simp only [reduceCtorEq, z10, z00, not_true_eq_false, not_false_eq_true, false_implies, true_implies, implies_true, nI_1, Int32.add_zero, true_or, or_true, true_and, and_true, eI_eq, eL_eq, eR_eq, eV_eq, lg_cmp_ge, lg_cmp_le, lg_cmp_gt, lg_cmp_lt, lg_cmp_eq, v_62_0, v_62_1, v_62_2, v_62_5, v_62_7, v_62_9, v_62_10, v_62_13, v_62_15, v_62_17, v_62_20, v_62_22, v_62_25, v_62_26, v_62_27, v_62_80, v_62_82, v_62_85, v_62_86, v_62_88, v_62_91, v_62_92, v_62_94, v_62_97, v_62_98, v_62_100, v_62_103, v_62_104, v_62_106, v_62_109, v_62_110, v_62_112, v_62_115, v_62_118, v_62_119, v_62_122, v_62_123, v_62_124, v_62_126, v_62_129, v_62_132, v_62_134, v_62_137, v_62_139, v_62_142, v_62_143, v_62_145, v_62_148, v_62_151, v_62_153, v_62_156, v_62_158, v_62_161, v_62_164, v_62_165, v_62_167, v_62_168, v_62_171, v_62_172, v_62_173, (hI'.t ht).ok r hrm, hq.2.2.2.1 r 0 (hg r hrm) (by decide)]
          simpa [spX, hr] using h'
      · simp only [v_62_28_8, z10, z00, not_true_eq_false, not_false_eq_true, false_implies, true_implies, implies_true, nI_1, Int32.add_zero, true_or, or_true, true_and, and_true, eI_eq, eL_eq, eR_eq, eV_eq, lg_cmp_ge, lg_cmp_le, lg_cmp_gt, lg_cmp_lt, lg_cmp_eq, v_62_0, v_62_1, v_62_2, v_62_5, v_62_7, v_62_9, v_62_10, v_62_13, v_62_15, v_62_17, v_62_20, v_62_22, v_62_25, v_62_26, v_62_27, v_62_80, v_62_82, v_62_85, v_62_86, v_62_88, v_62_91, v_62_92, v_62_94, v_62_97, v_62_98, v_62_100, v_62_103, v_62_104, v_62_106, v_62_109, v_62_110, v_62_112, v_62_115, v_62_118, v_62_119, v_62_122, v_62_123, v_62_124, v_62_126, v_62_129, v_62_132, v_62_134, v_62_137, v_62_139, v_62_142, v_62_143, v_62_145, v_62_148, v_62_151, v_62_153, v_62_156, v_62_158, v_62_161, v_62_164, v_62_165, v_62_167, v_62_168, v_62_171, v_62_172, v_62_173, hI'.xb.oT ht]
        refine X_kidsOf (hI'.t ht) (fun σ2 g1 g2 g3 => ?_)
        have hq2 := hq.trans (XQ.s ht hg g1)
        have h2 := h t ht e σ2 hq2 (hI'.set ht g1 g2)
        rw [hf] at h2
        rw [cP_congr (hq2.ki hg)]
        simpa [spX] using h2
    · rw [v_62_28_d _ _ _ _ _ _ _ _ _ (sw_out hw)]
      simp only [z10, z00, not_true_eq_false, not_false_eq_true, false_implies, true_implies, implies_true, nI_1, Int32.add_zero, true_or, or_true, true_and, and_true, eI_eq, eL_eq, eR_eq, eV_eq, lg_cmp_ge, lg_cmp_le, lg_cmp_gt, lg_cmp_lt, lg_cmp_eq, v_62_0, v_62_1, v_62_2, v_62_5, v_62_7, v_62_9, v_62_10, v_62_13, v_62_15, v_62_17, v_62_20, v_62_22, v_62_25, v_62_26, v_62_27, v_62_80, v_62_82, v_62_85, v_62_86, v_62_88, v_62_91, v_62_92, v_62_94, v_62_97, v_62_98, v_62_100, v_62_103, v_62_104, v_62_106, v_62_109, v_62_110, v_62_112, v_62_115, v_62_118, v_62_119, v_62_122, v_62_123, v_62_124, v_62_126, v_62_129, v_62_132, v_62_134, v_62_137, v_62_139, v_62_142, v_62_143, v_62_145, v_62_148, v_62_151, v_62_153, v_62_156, v_62_158, v_62_161, v_62_164, v_62_165, v_62_167, v_62_168, v_62_171, v_62_172, v_62_173]
      have n0 : ∀ (y : Int32), 0 ≤ y.toInt ∧ y.toInt ≤ 8 → ¬ w = y := fun y hy e => hw (by rw [e]; exact hy)
      simpa [spX, n0 0 (by decide), n0 1 (by decide), n0 2 (by decide), n0 3 (by decide), n0 4 (by decide), n0 5 (by decide), n0 6 (by decide), n0 7 (by decide), n0 8 (by decide)] using h'
theorem X_kid {d : Nat} {σ : Sto} {x n i : Int32} {K : Int32 → Sto → Prop} {L : Nat → List Nat} (hI : XI σ L) (h0 : (x < 0 ∨ 20 ≤ x) → K (-1) σ) (h : ∀ t, t < 20 → x = nI t → ∀ σ', XQ σ σ' → XI σ' L → K (match (L t).find? (nuX σ n) with
    | none => -1
    | some _ => nuO σ (atL (kiX σ (L t) n) i (L t))) σ') : CI (d + 3) 63 [aR (some 1), aI x, aI n, aI i] σ K := by
  refine CI_of ?_
  show Ev (d + 3, 0, 0) 63 0 [aR (some 1), aI x, aI n, aI i, aU] [] σ _
  simp only [z10, z00, not_true_eq_false, not_false_eq_true, false_implies, true_implies, implies_true, nI_1, Int32.add_zero, true_or, or_true, true_and, and_true, eI_eq, eL_eq, eR_eq, eV_eq, lg_cmp_ge, lg_cmp_le, lg_cmp_gt, lg_cmp_lt, lg_cmp_eq, v_63_0, v_63_1, v_63_2, v_63_5, v_63_7, v_63_9, v_63_12, v_63_14, v_63_15, v_63_18, v_63_21, v_63_22, v_63_23, v_63_25, v_63_26, v_63_27, v_63_30, v_63_33, hI.xb.o1]
  refine X_traceAt hI.xb (fun c => ?_) (fun t ht e => ?_)
  · simp only [z10, z00, not_true_eq_false, not_false_eq_true, false_implies, true_implies, implies_true, true_and, and_true, true_or, or_true, false_and, and_false, false_or, or_false]
    exact h0 c
  simp only [reduceCtorEq, z10, z00, not_true_eq_false, not_false_eq_true, false_implies, true_implies, implies_true, true_and, and_true, true_or, or_true, false_and, and_false, false_or, or_false]
  refine X_spanAt hI ht (fun σ' hq hI' hS => ?_)
  have hg := hI.g ht
  cases hf : (L t).find? (nuX σ n) with
  | none =>
    have h' := h t ht e σ' hq hI'
    rw [hf] at h'
    simp only [z10, z00, not_true_eq_false, not_false_eq_true, false_implies, true_implies, implies_true, nI_1, Int32.add_zero, true_or, or_true, true_and, and_true, eI_eq, eL_eq, eR_eq, eV_eq, lg_cmp_ge, lg_cmp_le, lg_cmp_gt, lg_cmp_lt, lg_cmp_eq, v_63_0, v_63_1, v_63_2, v_63_5, v_63_7, v_63_9, v_63_12, v_63_14, v_63_15, v_63_18, v_63_21, v_63_22, v_63_23, v_63_25, v_63_26, v_63_27, v_63_30, v_63_33, reduceCtorEq]
    exact h'
  | some a =>
    simp only [z10, z00, not_true_eq_false, not_false_eq_true, false_implies, true_implies, implies_true, nI_1, Int32.add_zero, true_or, or_true, true_and, and_true, eI_eq, eL_eq, eR_eq, eV_eq, lg_cmp_ge, lg_cmp_le, lg_cmp_gt, lg_cmp_lt, lg_cmp_eq, v_63_0, v_63_1, v_63_2, v_63_5, v_63_7, v_63_9, v_63_12, v_63_14, v_63_15, v_63_18, v_63_21, v_63_22, v_63_23, v_63_25, v_63_26, v_63_27, v_63_30, v_63_33, reduceCtorEq, hI'.xb.oT ht]
    refine X_kidAt (hI'.t ht) (fun σ2 g1 g2 g3 => ?_)
    have hq2 := hq.trans (XQ.s ht hg g1)
    have h2 := h t ht e σ2 hq2 (hI'.set ht g1 g2)
    rw [hf] at h2
    rw [atL_congr (hq2.ki hg)]
    have hm : ∀ b, atL (kiX σ (L t) n) i (L t) = some b → b ∈ L t := fun b hb => atL_mem hb
    refine X_numberOf (fun b hb => g2.ok b (hm b hb)) ?_
    rw [nuO_of hq2 (fun b hb => hg b (hm b hb))]
    exact h2
theorem X_root {d : Nat} {σ : Sto} {x i : Int32} {K : Int32 → Sto → Prop} {L : Nat → List Nat} (hI : XI σ L) (h0 : (x < 0 ∨ 20 ≤ x) → K (-1) σ) (h : ∀ t, t < 20 → x = nI t → ∀ σ', XQ σ σ' → XI σ' L → K (nuO σ (atL (roX σ (L t)) i (L t))) σ') : CI (d + 3) 64 [aR (some 1), aI x, aI i] σ K := by
  refine CI_of ?_
  show Ev (d + 3, 0, 0) 64 0 [aR (some 1), aI x, aI i, aU] [] σ _
  simp only [z10, z00, not_true_eq_false, not_false_eq_true, false_implies, true_implies, implies_true, nI_1, Int32.add_zero, true_or, or_true, true_and, and_true, eI_eq, eL_eq, eR_eq, eV_eq, lg_cmp_ge, lg_cmp_le, lg_cmp_gt, lg_cmp_lt, lg_cmp_eq, v_64_0, v_64_1, v_64_2, v_64_5, v_64_6, v_64_7, v_64_10, v_64_11, v_64_14, v_64_15, v_64_16, v_64_19, v_64_22, hI.xb.o1]
  refine X_traceAt hI.xb (fun c => ?_) (fun t ht e => ?_)
  · simp only [z10, z00, not_true_eq_false, not_false_eq_true, false_implies, true_implies, implies_true, true_and, and_true, true_or, or_true, false_and, and_false, false_or, or_false]
    exact h0 c
  simp only [reduceCtorEq, hI.xb.oT ht, z10, z00, not_true_eq_false, not_false_eq_true, false_implies, true_implies, implies_true, nI_1, Int32.add_zero, true_or, or_true, true_and, and_true, eI_eq, eL_eq, eR_eq, eV_eq, lg_cmp_ge, lg_cmp_le, lg_cmp_gt, lg_cmp_lt, lg_cmp_eq, v_64_0, v_64_1, v_64_2, v_64_5, v_64_6, v_64_7, v_64_10, v_64_11, v_64_14, v_64_15, v_64_16, v_64_19, v_64_22]
  have hg := hI.g ht
  refine X_rootAt (hI.t ht) (fun σ2 g1 g2 g3 => ?_)
  have hq2 := XQ.s ht hg g1
  have h2 := h t ht e σ2 hq2 (hI.set ht g1 g2)
  rw [atL_congr (hq2.ro hg)]
  have hm : ∀ b, atL (roX σ (L t)) i (L t) = some b → b ∈ L t := fun b hb => atL_mem hb
  refine X_numberOf (fun b hb => g2.ok b (hm b hb)) ?_
  rw [nuO_of hq2 (fun b hb => hg b (hm b hb))]
  exact h2
def trX (σ : Sto) (l : List Nat) (w s : Int32) : Int32 := if w = 0 then nI (l.countP (roX σ l)) else if w = 1 then nI (l.countP (hfX σ l)) else if w = 2 then nI (l.countP (loX σ l)) else if w = 3 then nI (l.countP (prX σ l)) else if w = 4 then s else -1
theorem sw4 {w : Int32} (hw : 0 ≤ w.toInt ∧ w.toInt ≤ 4) : w = 0 ∨ w = 1 ∨ w = 2 ∨ w = 3 ∨ w = 4 := by
  have e : w.toInt = 0 ∨ w.toInt = 1 ∨ w.toInt = 2 ∨ w.toInt = 3 ∨ w.toInt = 4 := by omega
  rcases e with e | e | e | e | e
  · exact Or.inl (of_toInt e)
  · exact Or.inr (Or.inl (of_toInt e))
  · exact Or.inr (Or.inr (Or.inl (of_toInt e)))
  · exact Or.inr (Or.inr (Or.inr (Or.inl (of_toInt e))))
  · exact Or.inr (Or.inr (Or.inr (Or.inr (of_toInt e))))
theorem X_trace {d : Nat} {σ : Sto} {x w : Int32} {K : Int32 → Sto → Prop} {L : Nat → List Nat} (hI : XI σ L) (h0 : (x < 0 ∨ 20 ≤ x) → K (-1) σ) (h : ∀ t, t < 20 → x = nI t → ∀ σ', XQ σ σ' → XI σ' L → K (trX σ (L t) w (gi σ (28 + 2 * t) 3)) σ') : CI (d + 3) 65 [aR (some 1), aI x, aI w] σ K := by
  refine CI_of ?_
  show Ev (d + 3, 0, 0) 65 0 [aR (some 1), aI x, aI w, aU] [] σ _
  simp only [z10, z00, not_true_eq_false, not_false_eq_true, false_implies, true_implies, implies_true, nI_1, Int32.add_zero, true_or, or_true, true_and, and_true, eI_eq, eL_eq, eR_eq, eV_eq, lg_cmp_ge, lg_cmp_le, lg_cmp_gt, lg_cmp_lt, lg_cmp_eq, v_65_0, v_65_1, v_65_2, v_65_5, v_65_6, v_65_7, v_65_10, v_65_11, v_65_12, v_65_48, v_65_49, v_65_52, v_65_53, v_65_54, v_65_57, v_65_58, v_65_59, v_65_62, v_65_63, v_65_64, v_65_67, v_65_68, v_65_69, v_65_72, v_65_73, v_65_74, hI.xb.o1]
  refine X_traceAt hI.xb (fun c => ?_) (fun t ht e => ?_)
  · simp only [z10, z00, not_true_eq_false, not_false_eq_true, false_implies, true_implies, implies_true, true_and, and_true, true_or, or_true, false_and, and_false, false_or, or_false]
    exact h0 c
  have hg := hI.g ht
  have hT := hI.xb.oT ht
  have h' := h t ht e σ (XQ.rfl σ) hI
  simp only [reduceCtorEq, z10, z00, not_true_eq_false, not_false_eq_true, false_implies, true_implies, implies_true, true_and, and_true, true_or, or_true, false_and, and_false, false_or, or_false]
  by_cases hw : 0 ≤ w.toInt ∧ w.toInt ≤ 4
  · rcases sw4 hw with rfl | rfl | rfl | rfl | rfl
    · simp only [v_65_13_0, z10, z00, not_true_eq_false, not_false_eq_true, false_implies, true_implies, implies_true, nI_1, Int32.add_zero, true_or, or_true, true_and, and_true, eI_eq, eL_eq, eR_eq, eV_eq, lg_cmp_ge, lg_cmp_le, lg_cmp_gt, lg_cmp_lt, lg_cmp_eq, v_65_0, v_65_1, v_65_2, v_65_5, v_65_6, v_65_7, v_65_10, v_65_11, v_65_12, v_65_48, v_65_49, v_65_52, v_65_53, v_65_54, v_65_57, v_65_58, v_65_59, v_65_62, v_65_63, v_65_64, v_65_67, v_65_68, v_65_69, v_65_72, v_65_73, v_65_74, hT]
      refine X_roots (hI.t ht) (fun σ2 g1 g2 g3 => ?_)
      have hq2 := XQ.s ht hg g1
      have h2 := h t ht e σ2 hq2 (hI.set ht g1 g2)
      rw [cP_congr (hq2.ro hg)]
      simpa [trX] using h2
    · simp only [v_65_13_1, z10, z00, not_true_eq_false, not_false_eq_true, false_implies, true_implies, implies_true, nI_1, Int32.add_zero, true_or, or_true, true_and, and_true, eI_eq, eL_eq, eR_eq, eV_eq, lg_cmp_ge, lg_cmp_le, lg_cmp_gt, lg_cmp_lt, lg_cmp_eq, v_65_0, v_65_1, v_65_2, v_65_5, v_65_6, v_65_7, v_65_10, v_65_11, v_65_12, v_65_48, v_65_49, v_65_52, v_65_53, v_65_54, v_65_57, v_65_58, v_65_59, v_65_62, v_65_63, v_65_64, v_65_67, v_65_68, v_65_69, v_65_72, v_65_73, v_65_74, hT]
      refine X_holes (hI.t ht) (fun σ2 g1 g2 g3 => ?_)
      have hq2 := XQ.s ht hg g1
      have h2 := h t ht e σ2 hq2 (hI.set ht g1 g2)
      rw [cP_congr (hq2.hf hg)]
      simpa [trX] using h2
    · simp only [v_65_13_2, z10, z00, not_true_eq_false, not_false_eq_true, false_implies, true_implies, implies_true, nI_1, Int32.add_zero, true_or, or_true, true_and, and_true, eI_eq, eL_eq, eR_eq, eV_eq, lg_cmp_ge, lg_cmp_le, lg_cmp_gt, lg_cmp_lt, lg_cmp_eq, v_65_0, v_65_1, v_65_2, v_65_5, v_65_6, v_65_7, v_65_10, v_65_11, v_65_12, v_65_48, v_65_49, v_65_52, v_65_53, v_65_54, v_65_57, v_65_58, v_65_59, v_65_62, v_65_63, v_65_64, v_65_67, v_65_68, v_65_69, v_65_72, v_65_73, v_65_74, hT]
      refine X_lost (hI.t ht) (fun σ2 g1 g2 g3 => ?_)
      have hq2 := XQ.s ht hg g1
      have h2 := h t ht e σ2 hq2 (hI.set ht g1 g2)
      rw [cP_congr (hq2.lo hg)]
      simpa [trX] using h2
    · simp only [v_65_13_3, z10, z00, not_true_eq_false, not_false_eq_true, false_implies, true_implies, implies_true, nI_1, Int32.add_zero, true_or, or_true, true_and, and_true, eI_eq, eL_eq, eR_eq, eV_eq, lg_cmp_ge, lg_cmp_le, lg_cmp_gt, lg_cmp_lt, lg_cmp_eq, v_65_0, v_65_1, v_65_2, v_65_5, v_65_6, v_65_7, v_65_10, v_65_11, v_65_12, v_65_48, v_65_49, v_65_52, v_65_53, v_65_54, v_65_57, v_65_58, v_65_59, v_65_62, v_65_63, v_65_64, v_65_67, v_65_68, v_65_69, v_65_72, v_65_73, v_65_74, hT]
      refine X_pairs (hI.t ht) (fun σ2 g1 g2 g3 => ?_)
      have hq2 := XQ.s ht hg g1
      have h2 := h t ht e σ2 hq2 (hI.set ht g1 g2)
      rw [cP_congr (hq2.pr hg)]
      simpa [trX] using h2
    · simp only [v_65_13_4, z10, z00, not_true_eq_false, not_false_eq_true, false_implies, true_implies, implies_true, nI_1, Int32.add_zero, true_or, or_true, true_and, and_true, eI_eq, eL_eq, eR_eq, eV_eq, lg_cmp_ge, lg_cmp_le, lg_cmp_gt, lg_cmp_lt, lg_cmp_eq, v_65_0, v_65_1, v_65_2, v_65_5, v_65_6, v_65_7, v_65_10, v_65_11, v_65_12, v_65_48, v_65_49, v_65_52, v_65_53, v_65_54, v_65_57, v_65_58, v_65_59, v_65_62, v_65_63, v_65_64, v_65_67, v_65_68, v_65_69, v_65_72, v_65_73, v_65_74, hT]
      simpa [trX] using h'
  · rw [v_65_13_d _ _ _ _ _ _ _ (sw_out hw)]
    simp only [z10, z00, not_true_eq_false, not_false_eq_true, false_implies, true_implies, implies_true, nI_1, Int32.add_zero, true_or, or_true, true_and, and_true, eI_eq, eL_eq, eR_eq, eV_eq, lg_cmp_ge, lg_cmp_le, lg_cmp_gt, lg_cmp_lt, lg_cmp_eq, v_65_0, v_65_1, v_65_2, v_65_5, v_65_6, v_65_7, v_65_10, v_65_11, v_65_12, v_65_48, v_65_49, v_65_52, v_65_53, v_65_54, v_65_57, v_65_58, v_65_59, v_65_62, v_65_63, v_65_64, v_65_67, v_65_68, v_65_69, v_65_72, v_65_73, v_65_74]
    have n0 : ∀ (y : Int32), 0 ≤ y.toInt ∧ y.toInt ≤ 4 → ¬ w = y := fun y hy e => hw (by rw [e]; exact hy)
    simpa [trX, n0 0 (by decide), n0 1 (by decide), n0 2 (by decide), n0 3 (by decide), n0 4 (by decide)] using h'
theorem X_time {d : Nat} {σ : Sto} {x n e m : Int32} {K : Int64 → Sto → Prop} {L : Nat → List Nat} (hI : XI σ L) (h0 : (x < 0 ∨ 20 ≤ x) → K (-9223372036854775808) σ) (h : ∀ t, t < 20 → x = nI t → ∀ σ', XQ σ σ' → XI σ' L → K (match (L t).find? (nuX σ n) with
    | none => -9223372036854775808
    | some a => tiA (gl σ 10) (rwX σ 0 a) e m) σ') : CL (d + 3) 66 [aR (some 1), aI x, aI n, aI e, aI m] σ K := by
  refine CL_of ?_
  show Ev (d + 3, 0, 0) 66 0 [aR (some 1), aI x, aI n, aI e, aI m, aU, aU, aU] [] σ _
  simp only [z10, z00, not_true_eq_false, not_false_eq_true, false_implies, true_implies, implies_true, nI_1, Int32.add_zero, true_or, or_true, true_and, and_true, eI_eq, eL_eq, eR_eq, eV_eq, lg_cmp_ge, lg_cmp_le, lg_cmp_gt, lg_cmp_lt, lg_cmp_eq, v_66_0, v_66_1, v_66_2, v_66_5, v_66_6, v_66_9, v_66_11, v_66_13, v_66_16, v_66_19, v_66_20, v_66_21, v_66_24, v_66_26, v_66_29, v_66_32, v_66_34, v_66_37, v_66_39, v_66_41, v_66_44, v_66_46, v_66_47, v_66_50, v_66_53, v_66_55, v_66_58, v_66_59, v_66_60, v_66_63, v_66_65, hI.xb.o1]
  refine X_traceAt hI.xb (fun c => ?_) (fun t ht ex => ?_)
  · refine X_spanAt0 ?_
    simp only [z10, z00, not_true_eq_false, not_false_eq_true, false_implies, true_implies, implies_true, true_and, and_true, true_or, or_true, false_and, and_false, false_or, or_false]
    exact h0 c
  refine X_spanAt hI ht (fun σ' hq hI' hS => ?_)
  have h' := h t ht ex σ' hq hI'
  have hg := hI.g ht
  cases hf : (L t).find? (nuX σ n) with
  | none =>
    rw [hf] at h'
    simp only [z10, z00, not_true_eq_false, not_false_eq_true, false_implies, true_implies, implies_true, true_and, and_true, true_or, or_true, false_and, and_false, false_or, or_false]
    exact h'
  | some a =>
    have ha : a ∈ L t := List.mem_of_find?_eq_some hf
    have haO := (hI'.t ht).ok a ha
    have h3 := hg a ha
    rw [hf] at h'
    have eg : gl σ' a = gl σ a := hq.2.2.2.2.2 a (by omega) (by omega) (by omega) (by omega) (by omega)
    have e10 : gl σ' 10 = gl σ 10 := hq.2.2.2.2.2 10 (by decide) (by decide) (by decide) (by decide) (by decide)
    have e2 : gi σ' a 2 = gi σ a 2 := hq.2.2.2.1 a 2 h3 (by decide)
    obtain ⟨v, hv, ev⟩ := (hI.r ht a ha).v
    have ev' : gi σ a 2 = nI v := ev
    have hc : (nI v).toNatClampNeg = v := nI_clamp (by omega)
    simp only [reduceCtorEq, z10, z00, not_true_eq_false, not_false_eq_true, false_implies, true_implies, implies_true, nI_1, Int32.add_zero, true_or, or_true, true_and, and_true, eI_eq, eL_eq, eR_eq, eV_eq, lg_cmp_ge, lg_cmp_le, lg_cmp_gt, lg_cmp_lt, lg_cmp_eq, v_66_0, v_66_1, v_66_2, v_66_5, v_66_6, v_66_9, v_66_11, v_66_13, v_66_16, v_66_19, v_66_20, v_66_21, v_66_24, v_66_26, v_66_29, v_66_32, v_66_34, v_66_37, v_66_39, v_66_41, v_66_44, v_66_46, v_66_47, v_66_50, v_66_53, v_66_55, v_66_58, v_66_59, v_66_60, v_66_63, v_66_65, haO, hI'.xb.o1, hI'.xb.r1_2, hI'.xb.o7, hI'.xb.r7_2, eg, e10, e2, ev', hI'.xb.a10 hv, hc]
    simp only [tiA, rB, rE, rV, rwX, ev', hc] at h'
    refine ⟨fun g => ⟨fun g2 => ?_, fun g2 => ?_⟩, fun g => ⟨fun g2 => ?_, fun g2 => ?_⟩⟩ <;> simpa [g, g2] using h'
