/-! both: close -/
theorem qt_fold {same : Nat → Bool} {st kb : Nat → Int32} : ∀ (r : List Nat), (r.reverse.foldl (fun p o => qtS same st kb o p) (0, none)).1 = r.countP (fun o => same o && decide (st o = 1) && decide (kb o = 3)) ∧ (r.reverse.foldl (fun p o => qtS same st kb o p) (0, none)).2 = (r.filter (fun o => decide (st o = 1))).find? same
  | [] => ⟨rfl, rfl⟩
  | o :: r => by
    obtain ⟨i1, i2⟩ := qt_fold (same := same) (st := st) (kb := kb) r
    rw [List.reverse_cons, List.foldl_append, List.countP_cons, ← i1]
    generalize r.reverse.foldl (fun p o => qtS same st kb o p) (0, none) = p at i1 i2 ⊢
    simp only [List.foldl_cons, List.foldl_nil, qtS]
    by_cases h1 : st o = 1
    · rw [List.filter_cons_of_pos (by simpa using h1), List.find?_cons]
      cases h2 : same o with
      | true =>
        simp only [h1, and_self, if_true, decide_true, Bool.true_and, decide_eq_true_eq]
      | false =>
        simp only [Bool.false_eq_true, false_and, if_false, Bool.false_and, Nat.add_zero]
        exact ⟨trivial, i2⟩
    · rw [List.filter_cons_of_neg (by simpa using h1)]
      simp only [h1, and_false, if_false, decide_false, Bool.and_false, Bool.false_and, Bool.false_eq_true, Nat.add_zero]
      exact ⟨trivial, i2⟩
theorem OD_up {σ σ' : Sto} : ∀ (l : List Nat) (c : Nat), (∀ j, j < c + l.length → gi σ' 100 j = gi σ 100 j) → OD σ c l → OD σ' c l
  | [], _, _, _ => trivial
  | t :: l, c, h, hO => by
    rw [List.length_cons] at h
    exact ⟨hO.1, by rw [h c (by omega)]; exact hO.2.1, OD_up l (c + 1) (fun j hj => h j (by omega)) hO.2.2⟩
theorem OD_app {σ : Sto} {t : Nat} : ∀ (l : List Nat) (c : Nat), OD σ c l → t < 20 → gi σ 100 (c + l.length) = nI t → OD σ c (l ++ [t])
  | [], c, _, h1, h2 => ⟨h1, h2, trivial⟩
  | u :: l, c, hO, h1, h2 => ⟨hO.1, hO.2.1, OD_app l (c + 1) hO.2.2 h1 (by rw [List.length_cons] at h2; rw [show c + 1 + l.length = c + (l.length + 1) by omega]; exact h2)⟩
theorem byA_in (s : Int32) (len : Int64) (f : Bool) (q : Nat) (qu : Int32) : byA s len f q qu = 0 ∨ byA s len f q qu = 1 ∨ byA s len f q qu = 2 ∨ byA s len f q qu = 3 := by
  unfold byA
  split
  · exact Or.inr (Or.inl rfl)
  · split
    · exact Or.inr (Or.inr (Or.inl rfl))
    · split
      · exact Or.inr (Or.inr (Or.inr rfl))
      · exact Or.inl rfl
section
variable {N : Nat} {xs : Nat → Int32} {σ σ' : Sto} {n d : Nat} {L : Nat → List Nat} {S : Nat} {D : List Rw} {ol : List Nat} {pth : Nat → List Int32}
/-- the reference closes, in a store that has its cells as they were -/
theorem cl_M (h : INV N xs σ n L S D ol pth) {t : Nat} (ht : t < 20) (hst : gi σ 78 t = 0) {k a : Nat} {J : List Nat} (hJ : TC σ S t (L t) J) (g1 : fnd (raB σ S (nI t) 0) 0 S = some k) (g3 : rl σ t (L t) J k a) {lw : List (Nat × Int64 × Int64)} (hw : wkX σ (L t) (gl σ 10) 30 a = some lw) {σx : Sto} (hs : sn σx = sn σ) (hr : gr σx 68 = gr σ 68) (hi : ∀ b j, 68 ≤ b → b ≤ 102 → gi σx b j = gi σ b j) (hl : ∀ b, 68 ≤ b → b ≤ 102 → gl σx b = gl σ b) {K : Int32 → Sto → Prop} (hK : ∀ σ3, clP σx ol.length t (phX σ lw) (byX σ (up1 pth t (phX σ lw)) t (L t) a) ((klO σ ol).reverse.find? (fun o => eqL (up1 pth t (phX σ lw) o) (phX σ lw))) σ3 → K (byX σ (up1 pth t (phX σ lw)) t (L t) a) σ3) : CI (d + 40) 152 [aR (some 68), aI (nI t)] σx K := by
  obtain ⟨c1, c2, c3, c4, c5, c6, c7, c8, c9, c10, c11⟩ := h.2.2.2.1
  have fi : ∀ b, 68 ≤ b → b ≤ 102 → gi σx b = gi σ b := fun b e1 e2 => funext fun j => hi b j e1 e2
  have em : rwM σx = rwM σ := by
    funext j
    unfold rwM
    rw [fi 69 (by omega) (by omega), fi 70 (by omega) (by omega), fi 71 (by omega) (by omega), fi 72 (by omega) (by omega), fi 73 (by omega) (by omega), fi 74 (by omega) (by omega), fi 75 (by omega) (by omega), hl 76 (by omega) (by omega), hl 77 (by omega) (by omega)]
  have e86 := hl 86 (by omega) (by omega)
  have hM : MB σx S := MB_of (Nat.le_of_eq hs.symm) (hi 68 0 (by omega) (by omega)) hr h.1.2.1
  have hwM := hw
  rw [h.2.2.1.1] at hwM
  obtain ⟨lm, w1, w2, w3⟩ := hJ.wk (h.nd ht) g3 hwM
  have ep : ptO σx lm = phX σ lw := by
    have : ptO σx lm = ptO σ lm := by unfold ptO; rw [em]
    rw [this, an_path w2]
  have hno : ¬ 0 < gi σx 78 t := by rw [fi 78 (by omega) (by omega), hst]; decide
  refine M_close (n := 30) (C := ol.length) (ol := ol) (pth := pth) hM (fun j hj => by rw [em]; exact h.1.2.2.1 j hj) (by rw [e86, ← h.2.2.1.1]; exact h.2.2.1.2.1) (by omega) (fun r hr => by rw [wkM_of' em e86]; exact h.wm r hr) (by rw [fi 68 (by omega) (by omega)]; exact c6) h.ln.1 rfl (OD_of (fi 100 (by omega) (by omega)) _ _ c5) (fun o => by have := c11 o; omega) (fun o ho => ?_) (fun q => ?_) (fun t' ht' e => ?_)
  · refine ⟨by rw [fi 99 (by omega) (by omega)]; exact (c10 o ho).2.1, fun i q hq => by rw [fi 98 (by omega) (by omega)]; exact (c10 o ho).2.2 i q hq⟩
  · rcases q with q | q
    · exact absurd q (in20 ht).1
    · exact absurd q (in20 ht).2
  · have et : t = t' := (nI_eq (by omega) (by omega)).mp e
    subst et
    refine ⟨fun q => ?_, fun _ r l hg hrS hwr => ?_⟩
    · rcases q with q | q
      · exact absurd q hno
      · rw [raB_of em, g1] at q; cases q
    · rw [raB_of em, g1] at hg; cases hg
      rw [wkM_of' em e86, w1] at hwr; cases hwr
      have htol : t ∉ ol := by
        rcases c2 t ht with q | q | q
        · exact q.2
        · rw [q.1] at hst; exact absurd hst (by decide)
        · rw [q.1] at hst; exact absurd hst (by decide)
      have hC : ol.length < 20 := by
        have hnd : (t :: ol).Nodup := List.nodup_cons.mpr ⟨htol, c4⟩
        have := List.Nodup.length_le_of_subset hnd (l₂ := List.range 20) (fun u hu => by
          rcases List.mem_cons.mp hu with q | q
          · rw [q]; exact List.mem_range.mpr ht
          · exact List.mem_range.mpr (OD_mem ol 0 c5 u q))
        simp at this
        omega
      rw [ep]
      have q2 := qt_fold (same := fun o => eqL (up1 pth t (phX σ lw) o) (up1 pth t (phX σ lw) t)) (st := gi σ 78) (kb := gi σ 80) ol.reverse
      rw [List.reverse_reverse, List.filter_reverse, List.countP_reverse] at q2
      have eq1 : (qtO σx (up1 pth t (phX σ lw)) t ol).1 = cnt (fun o => decide (gi σ (28 + 2 * o) 4 = 3) && eqL (up1 pth t (phX σ lw) o) (up1 pth t (phX σ lw) t)) 0 20 := by
        unfold qtO
        rw [fi 78 (by omega) (by omega), fi 80 (by omega) (by omega), q2.1, cnt_range, ← List.range_eq_range', List.countP_eq_length_filter, List.countP_eq_length_filter]
        refine List.Perm.length_eq ((List.perm_ext_iff_of_nodup (c4.sublist List.filter_sublist) (List.nodup_range.sublist List.filter_sublist)).mpr (fun u => ?_))
        rw [List.mem_filter, List.mem_filter, List.mem_range, Bool.and_eq_true, Bool.and_eq_true, Bool.and_eq_true, decide_eq_true_eq, decide_eq_true_eq, decide_eq_true_eq]
        constructor
        · rintro ⟨u1, ⟨u2, u3⟩, u4⟩
          have hu := OD_mem ol 0 c5 u u1
          exact ⟨hu, by rw [(c1 u hu).2.1]; exact u4, u2⟩
        · rintro ⟨u1, u2, u3⟩
          rw [(c1 u u1).2.1] at u2
          have s1 := (c3 u u1).1 u2
          refine ⟨?_, ⟨u3, s1⟩, u2⟩
          rcases c2 u u1 with q | q | q
          · rw [q.1] at s1; exact absurd s1 (by decide)
          · exact q.2
          · exact q.2
      have eq2 : (qtO σx (up1 pth t (phX σ lw)) t ol).2 = (klO σ ol).reverse.find? (fun o => eqL (up1 pth t (phX σ lw) o) (phX σ lw)) := by
        unfold qtO
        rw [fi 78 (by omega) (by omega), fi 80 (by omega) (by omega), q2.2, up1_s]
        rfl
      have ef : anB (flT σx (nI t)) 0 S = (L t).any (faX σ) := anB_any hJ (fun j b hj => by
        unfold flT faX
        rw [em, hJ.tr hj, hj.2.2, decide_eq_decide]
        exact ⟨fun q => q.2, fun q => ⟨rfl, q⟩⟩) (fun j _ e => by unfold flT; rw [em]; simp [e])
      have eby : byA (gi σx 97 (rC (rwM σx k)).toNatClampNeg) (rE (rwM σx k) - rB (rwM σx k)) (anB (flT σx (nI t)) 0 S) (qtO σx (up1 pth t (phX σ lw)) t ol).1 (gi σx 68 38) = byX σ (up1 pth t (phX σ lw)) t (L t) a := by
        unfold byX
        rw [eq1, ef, em, g3.2.2, fi 97 (by omega) (by omega), fi 68 (by omega) (by omega), ← h.2.2.1.2.2.2.2.1, ← h.2.2.1.2.2.2.2.2]
        rfl
      rw [eby, eq2]
      exact ⟨hC, hK⟩
/-- and then all stands again -/
theorem cl_I (h : INV N xs σ n L S D ol pth) (hn : n < 64) {t : Nat} (ht : t < 20) (hst : gi σ 78 t = 0) {path : List Int32} (hpl : path.length ≤ 60) {w : Int32} (hw : w = 0 ∨ w = 1 ∨ w = 2 ∨ w = 3) {lt : Option Nat} {σ2 σx σ3 : Sto} (hI2 : XI σ2 L) {σ1 : Sto} (hx : XQ σ σ1) (hs : scQ t σ1 σ2) (hP2 : ∀ o, o < 20 → PX σ2 o (up1 pth t path o)) (xs1 : sn σx = sn σ2) (xs2 : gr σx = gr σ2) (xs3 : gl σx = gl σ2) (xi : ∀ a k, ¬ (28 ≤ a ∧ a < 68 ∧ a % 2 = 0 ∧ (k = 3 ∨ k = 4 ∨ k = 5)) → a ≠ 27 → ¬ (a = 1 ∧ (k = 7 ∨ k = 14 ∨ k = 15)) → gi σx a k = gi σ2 a k) (p3 : ∀ u, u < 20 → gi σx (28 + 2 * u) 3 = up1 (gi σ 78) t (if 0 < w then 1 else 2) u ∧ gi σx (28 + 2 * u) 4 = up1 (gi σ 80) t w u ∧ gi σx (28 + 2 * u) 5 = (if 0 < w then up1 (gi σ 79) t 1 else inO (gi σ 79) lt) u) (p15 : gi σx 1 15 = gi σ 1 15 + 1) (p7 : gi σx 1 7 = nI (klO σ ol ++ (if 0 < w then [t] else [])).length) (p27 : KL σx (klO σ ol ++ (if 0 < w then [t] else []))) (p14 : gi σx 1 14 = if 0 < w ∨ ¬ lt = none then gi σ 1 14 else gi σ 1 14 + 1) (hc : clP σx ol.length t path w lt σ3) : IV N xs σ3 (n + 1) := by
  obtain ⟨⟨i1, i2, i3⟩, i4, i5, i6, i7, i8, i9, i10⟩ := id h
  obtain ⟨c1, c2, c3, c4, c5, c6, c7, c8, c9, c10, c11⟩ := i6
  obtain ⟨m1, m2, m3, m4, m5, m6, m7, m8, m9, m10, m11, m12, m13⟩ := hc
  have q1 : sn σ2 = sn σ := hs.1.trans hx.1
  have q2 : ∀ a k, 103 ≤ a → k ≠ 11 → gi σ2 a k = gi σ a k := fun a k e1 e2 => (hs.2.2.2 a k (by omega) (by omega)).trans (hx.qq.2.1 a k e1 e2)
  have q3 : ∀ a k, a < 103 → ¬ sci a k → ¬ (a = 28 + 2 * t ∧ k = 7) → a ≠ 29 + 2 * t → gi σ2 a k = gi σ a k := fun a k e1 e2 e3 e4 => (hs.2.2.2 a k e3 e4).trans (hx.qq.i e1 e2)
  have q4 : ∀ a, ¬ scl a → gl σ2 a = gl σ a := fun a e => by rw [hs.2.1]; exact hx.qq.2.2.2.1 a e
  have q5 : ∀ a k, a < 103 → gr σ2 a k = gr σ a k := fun a k e => by rw [hs.2.2.1]; exact hx.2.1 a k e
  have x3 : ∀ a k, a < 103 → ¬ sci a k → ¬ (a = 28 + 2 * t ∧ k = 7) → a ≠ 29 + 2 * t → ¬ (28 ≤ a ∧ a < 68 ∧ a % 2 = 0 ∧ (k = 3 ∨ k = 4 ∨ k = 5)) → a ≠ 27 → ¬ (a = 1 ∧ (k = 7 ∨ k = 14 ∨ k = 15)) → gi σx a k = gi σ a k := fun a k e1 e2 e3 e4 e5 e6 e7 => (xi a k e5 e6 e7).trans (q3 a k e1 e2 e3 e4)
  have s3 : ∀ a k, a ≠ 78 → a ≠ 79 → a ≠ 80 → a ≠ 89 → a ≠ 92 → a ≠ 98 → a ≠ 99 → a ≠ 100 → ¬ (a = 68 ∧ (k = 18 ∨ k = 27 ∨ k = 42 ∨ k = 17)) → gi σ3 a k = gi σx a k := fun a k e1 e2 e3 e4 e5 e6 e7 e8 e9 => by
    by_cases e : a = 68
    · subst e; exact m4 k (by omega) (by omega) (by omega) (by omega)
    · rw [m3 a e e1 e2 e3 e4 e5 e6 e7 e8]
  have gF : ∀ a k, a < 103 → ¬ sci a k → ¬ (a = 28 + 2 * t ∧ k = 7) → a ≠ 29 + 2 * t → ¬ (28 ≤ a ∧ a < 68 ∧ a % 2 = 0 ∧ (k = 3 ∨ k = 4 ∨ k = 5)) → a ≠ 27 → ¬ (a = 1 ∧ (k = 7 ∨ k = 14 ∨ k = 15)) → a ≠ 78 → a ≠ 79 → a ≠ 80 → a ≠ 98 → a ≠ 99 → a ≠ 100 → ¬ (a = 68 ∧ (k = 42 ∨ k = 17)) → gi σ3 a k = gi σ a k := fun a k e1 e2 e3 e4 e5 e6 e7 e8 e9 e10 e11 e12 e13 e14 => (s3 a k e8 e9 e10 (fun q => e2 (by unfold sci; omega)) (fun q => e2 (by unfold sci; omega)) e11 e12 e13 (fun q => by rcases q.2 with g | g | g | g; exact e2 (by unfold sci; omega); exact e2 (by unfold sci; omega); exact e14 ⟨q.1, Or.inl g⟩; exact e14 ⟨q.1, Or.inr g⟩)).trans (x3 a k e1 e2 e3 e4 e5 e6 e7)
  have lF : ∀ a, ¬ scl a → gl σ3 a = gl σ a := fun a e => by
    rw [m5 a (fun q => e (by unfold scl; omega)) (fun q => e (by unfold scl; omega)) (fun q => e (by unfold scl; omega)), xs3]; exact q4 a e
  have gA : ∀ a k, 103 ≤ a → k ≠ 11 → gi σ3 a k = gi σ a k := fun a k e1 e2 => by
    rw [m3 a (by omega) (by omega) (by omega) (by omega) (by omega) (by omega) (by omega) (by omega) (by omega), xi a k (by omega) (by omega) (by omega)]; exact q2 a k e1 e2
  have em : rwM σ3 = rwM σ := by
    funext k
    unfold rwM
    have e : ∀ a, 69 ≤ a → a ≤ 75 → gi σ3 a k = gi σ a k := fun a e1 e2 => gF a k (by omega) (by unfold sci; omega) (by omega) (by omega) (by omega) (by omega) (by omega) (by omega) (by omega) (by omega) (by omega) (by omega) (by omega) (by omega)
    rw [e 69 (by omega) (by omega), e 70 (by omega) (by omega), e 71 (by omega) (by omega), e 72 (by omega) (by omega), e 73 (by omega) (by omega), e 74 (by omega) (by omega), e 75 (by omega) (by omega), lF 76 (by unfold scl; omega), lF 77 (by unfold scl; omega)]
  have ex : ∀ u a, 103 ≤ a → rwX σ3 u a = rwX σ u a := fun u a ha => by
    unfold rwX
    rw [gA a 0 ha (by omega), gA a 1 ha (by omega), gA a 2 ha (by omega), gA a 3 ha (by omega), gA a 4 ha (by omega), gA a 5 ha (by omega), lF a (by unfold scl; omega)]
  have x78 : gi σx 78 = gi σ 78 := funext fun k => x3 78 k (by omega) (by unfold sci; omega) (by omega) (by omega) (by omega) (by omega) (by omega)
  have x79 : gi σx 79 = gi σ 79 := funext fun k => x3 79 k (by omega) (by unfold sci; omega) (by omega) (by omega) (by omega) (by omega) (by omega)
  have x80 : gi σx 80 = gi σ 80 := funext fun k => x3 80 k (by omega) (by unfold sci; omega) (by omega) (by omega) (by omega) (by omega) (by omega)
  have x100 : gi σx 100 = gi σ 100 := funext fun k => x3 100 k (by omega) (by unfold sci; omega) (by omega) (by omega) (by omega) (by omega) (by omega)
  rw [x78] at m9
  rw [x79] at m10
  rw [x80] at m8
  rw [x100] at m7
  have htol : t ∉ ol := by
    rcases c2 t ht with q | q | q
    · exact q.2
    · rw [q.1] at hst; exact absurd hst (by decide)
    · rw [q.1] at hst; exact absurd hst (by decide)
  have ew : (0 < w) ∨ w = 0 := by rcases hw with q | q | q | q <;> subst q <;> decide
  have kl3 : klO σ3 (ol ++ [t]) = klO σ ol ++ (if 0 < w then [t] else []) := by
    unfold klO
    rw [List.filter_append, m9]
    congr 1
    · refine List.filter_congr (fun u hu => ?_)
      rw [up1_n (fun q => htol (by rw [← q]; exact hu))]
    · by_cases g : 0 < w
      · simp [g, up1]
      · simp [g, up1]
  have hI3 : XI σ3 L := by
    have hIx : XI σx L := by
      refine hI2.of xs1 xs2 (fun a ha => ⟨funext fun k => xi a k (by omega) (by omega) (by omega), by rw [xs3]⟩) (fun u hu => ⟨xi _ _ (by omega) (by omega) (by omega), xi _ _ (by omega) (by omega) (by omega)⟩) ?_
      rw [xi 7 6 (by omega) (by omega) (by omega)]
      rcases hI2.2.2.2 with q | q
      · exact Or.inl q
      · exact Or.inr ⟨q.1, KN_of (by rw [xs3]) (by rw [xs3]) (xi 7 4 (by omega) (by omega) (by omega)) (xi 7 5 (by omega) (by omega) (by omega)) (funext fun k => xi 11 k (by omega) (by omega) (by omega)) q.2⟩
    exact hIx.m m1 m2 (fun a k ha => by rw [m3 a (by omega) (by omega) (by omega) (by omega) (by omega) (by omega) (by omega) (by omega) (by omega)]) (fun a ha => m5 a (by omega) (by omega) (by omega))
  refine ⟨L, S, D, ol ++ [t], up1 pth t path, ⟨hI3, ?_, RO_of em ex (fun u hu => i1.g hu) i3⟩, TTs_of em (fun a k ha => gF a k (by omega) (by unfold sci; omega) (by omega) (by omega) (by omega) (by omega) (by omega) (by omega) (by omega) (by omega) (by omega) (by omega) (by omega) (by omega)) i4, ?_, ?_, ?_, ?_, ?_, by omega, by omega⟩
  · refine MB_of (σ := σ) (by rw [m1, xs1, q1]; exact Nat.le_refl _) (gF 68 0 (by omega) (by unfold sci; omega) (by omega) (by omega) (by omega) (by omega) (by omega) (by omega) (by omega) (by omega) (by omega) (by omega) (by omega) (by omega)) ?_ i2
    rw [m2, xs2]
    exact funext fun k => q5 68 k (by omega)
  · exact CKs_of (fun a ha => lF a (by unfold scl; omega)) (fun a ha => funext fun k => gF a k (by omega) (by unfold sci; omega) (by omega) (by omega) (by omega) (by omega) (by omega) (by omega) (by omega) (by omega) (by omega) (by omega) (by omega) (by omega)) (gF 7 7 (by omega) (by unfold sci; omega) (by omega) (by omega) (by omega) (by omega) (by omega) (by omega) (by omega) (by omega) (by omega) (by omega) (by omega) (by omega)) (gF 1 8 (by omega) (by unfold sci; omega) (by omega) (by omega) (by omega) (by omega) (by omega) (by omega) (by omega) (by omega) (by omega) (by omega) (by omega) (by omega)) (gF 68 38 (by omega) (by unfold sci; omega) (by omega) (by omega) (by omega) (by omega) (by omega) (by omega) (by omega) (by omega) (by omega) (by omega) (by omega) (by omega)) i5
  · have tf : ∀ u k, u < 20 → gi σ3 (28 + 2 * u) k = gi σx (28 + 2 * u) k := fun u k hu => s3 _ k (by omega) (by omega) (by omega) (by omega) (by omega) (by omega) (by omega) (by omega) (by omega)
    refine ⟨fun u hu => ?_, fun u hu => ?_, fun u hu => ?_, ?_, ?_, ?_, ?_, ?_, ?_, fun o ho => ⟨?_, ?_⟩, fun o => ?_⟩
    · rw [tf u 3 hu, tf u 4 hu, tf u 5 hu, m8, m9, m10]
      exact p3 u hu
    · rw [m9]
      by_cases e : u = t
      · subst e
        rw [up1_s]
        rcases ew with g | g
        · rw [if_pos g]; exact Or.inr (Or.inl ⟨rfl, by simp⟩)
        · rw [g, if_neg (by decide)]; exact Or.inr (Or.inr ⟨rfl, by simp⟩)
      · rw [up1_n e]
        rcases c2 u hu with q | q | q
        · exact Or.inl ⟨q.1, fun g => by rcases List.mem_append.mp g with g | g; exact q.2 g; exact e (by simpa using g)⟩
        · exact Or.inr (Or.inl ⟨q.1, List.mem_append_left _ q.2⟩)
        · exact Or.inr (Or.inr ⟨q.1, List.mem_append_left _ q.2⟩)
    · rw [m8, m9]
      by_cases e : u = t
      · subst e
        rw [up1_s, up1_s]
        rcases ew with g | g
        · rw [if_pos g]; exact ⟨fun _ => rfl, fun q => absurd q (by decide)⟩
        · rw [g, if_neg (by decide)]; exact ⟨fun q => absurd q (by decide), fun q => absurd q (by decide)⟩
      · rw [up1_n e, up1_n e]; exact c3 u hu
    · rw [List.nodup_append]
      refine ⟨c4, by simp, fun u hu v hv e => ?_⟩
      rw [List.mem_singleton] at hv
      rw [e, hv] at hu
      exact htol hu
    · refine OD_app ol 0 (OD_up ol 0 (fun j hj => ?_) c5) ht ?_
      · rw [m7, up1_n (by omega)]
      · rw [m7, Nat.zero_add, up1_s]
    · rw [m6, List.length_append]; rfl
    · rw [s3 1 15 (by omega) (by omega) (by omega) (by omega) (by omega) (by omega) (by omega) (by omega) (by omega), p15, c7, nI_1, List.length_append]; rfl
    · rw [kl3]
      intro i o hio
      rw [s3 27 i (by omega) (by omega) (by omega) (by omega) (by omega) (by omega) (by omega) (by omega) (by omega)]
      exact p27 i o hio
    · rw [kl3, s3 1 7 (by omega) (by omega) (by omega) (by omega) (by omega) (by omega) (by omega) (by omega) (by omega)]
      exact p7
    · refine ⟨?_, fun i q hq => ?_⟩
      · rw [tf o 7 ho, xi _ 7 (by omega) (by omega) (by omega)]; exact (hP2 o ho).1
      · rw [s3 (29 + 2 * o) i (by omega) (by omega) (by omega) (by omega) (by omega) (by omega) (by omega) (by omega) (by omega), xi _ i (by omega) (by omega) (by omega)]; exact (hP2 o ho).2 i q hq
    · by_cases e : o = t
      · rw [e, up1_s]; exact m12
      · rw [up1_n e]
        refine m13 o _ e (by have := c11 o; omega) ⟨?_, fun i q hq => ?_⟩
        · rw [x3 99 o (by omega) (by unfold sci; omega) (by omega) (by omega) (by omega) (by omega) (by omega)]; exact (c10 o ho).2.1
        · rw [x3 98 _ (by omega) (by unfold sci; omega) (by omega) (by omega) (by omega) (by omega) (by omega)]; exact (c10 o ho).2.2 i q hq
    · by_cases e : o = t
      · rw [e, up1_s]; exact hpl
      · rw [up1_n e]; exact c11 o
  · obtain ⟨r1, r2, r3, r4, r5, r6⟩ := i7
    have g1 : ∀ k, 9 ≤ k → k ≤ 13 → gi σ3 1 k = gi σ 1 k := fun k e1 e2 => gF 1 k (by omega) (by unfold sci; omega) (by omega) (by omega) (by omega) (by omega) (by omega) (by omega) (by omega) (by omega) (by omega) (by omega) (by omega) (by omega)
    have g68 : ∀ k, 13 ≤ k → k ≤ 16 → gi σ3 68 k = gi σ 68 k := fun k e1 e2 => gF 68 k (by omega) (by unfold sci; omega) (by omega) (by omega) (by omega) (by omega) (by omega) (by omega) (by omega) (by omega) (by omega) (by omega) (by omega) (by omega)
    refine ⟨by rw [g1 9 (by omega) (by omega)]; exact r1, by rw [g1 10 (by omega) (by omega), g68 13 (by omega) (by omega)]; exact r2, by rw [g1 11 (by omega) (by omega), g68 14 (by omega) (by omega)]; exact r3, by rw [g1 12 (by omega) (by omega), g68 15 (by omega) (by omega)]; exact r4, by rw [g1 13 (by omega) (by omega), g68 16 (by omega) (by omega)]; exact r5, ?_⟩
    rw [s3 1 14 (by omega) (by omega) (by omega) (by omega) (by omega) (by omega) (by omega) (by omega) (by omega), p14, m11, x3 68 17 (by omega) (by unfold sci; omega) (by omega) (by omega) (by omega) (by omega) (by omega), r6]
  · exact TW_of (gF 14 4 (by omega) (by unfold sci; omega) (by omega) (by omega) (by omega) (by omega) (by omega) (by omega) (by omega) (by omega) (by omega) (by omega) (by omega) (by omega)) (fun a ha => funext fun k => gF a k (by omega) (by unfold sci; omega) (by omega) (by omega) (by omega) (by omega) (by omega) (by omega) (by omega) (by omega) (by omega) (by omega) (by omega) (by omega)) (gF 68 33 (by omega) (by unfold sci; omega) (by omega) (by omega) (by omega) (by omega) (by omega) (by omega) (by omega) (by omega) (by omega) (by omega) (by omega) (by omega)) (fun a ha => lF a (by unfold scl; omega)) i8
  · refine SC_of ?_ (funext fun k => gF 0 k (by omega) (by unfold sci; omega) (by omega) (by omega) (by omega) (by omega) (by omega) (by omega) (by omega) (by omega) (by omega) (by omega) (by omega) (by omega)) i9
    rw [m2, xs2]; exact q5 0 0 (by omega)
theorem op_close (h : INV N xs σ n L S D ol pth) (hn : n < 64) (x : Int32) : CI (d + 40) 79 [aR (some 1), aI x] σ (fun a σ1 => CI (d + 40) 152 [aR (some 68), aI x] σ1 (fun b σ2 => a = b ∧ IV N xs σ2 (n + 1))) := by
  obtain ⟨c1, c2, c3, c4, c5, c6, c7, c8, c9, c10, c11⟩ := h.2.2.2.1
  have hMm : ∀ σ1, INV N xs σ1 n L S D ol pth → mvB (gl σ1 86) := fun σ1 h1 => by rw [← h1.2.2.1.1]; exact h1.2.2.1.2.1
  have lk : (klO σ ol).length ≤ 20 := Nat.le_trans (List.length_filter_le _ _) h.ln.1
  have clo : ∀ σ1, INV N xs σ1 n L S D ol pth → ∀ K : Int32 → Sto → Prop, ((x < 0 ∨ 20 ≤ x) → K (-1) σ1) → (∀ t, t < 20 → x = nI t → (∀ v, K (-3) (dp σ1 v)) ∧ (¬ 0 < gi σ1 78 t → ∀ r, fnd (raB σ1 S x 0) 0 S = some r → False)) → CI (d + 40) 152 [aR (some 68), aI x] σ1 K := fun σ1 h1 K k1 k2 => by
    obtain ⟨d1, d2, d3, d4, d5, d6, d7, d8, d9, d10, d11⟩ := h1.2.2.2.1
    exact M_close (n := 30) (C := ol.length) (ol := ol) (pth := pth) h1.1.2.1 h1.1.2.2.1 (hMm σ1 h1) (by omega) h1.wm d6 h1.ln.1 rfl d5 (fun o => by have := d11 o; omega) (fun o ho => (d10 o ho).2) k1 (fun t ht e => ⟨fun _ => (k2 t ht e).1, fun g r l hg => ((k2 t ht e).2 g r hg).elim⟩)
  refine X_close h.1.1 h.2.2.1.2.1 h.wk (fun o ho => (c10 o ho).1) c11 c8 lk c9 (fun c => ?_) (fun t ht e => ⟨fun q σ1 hq hI1 => ?_, fun hs0 a lw hr ha hw1 hw2 => ?_⟩)
  · refine clo σ h _ (fun _ => ⟨rfl, h.iv hn⟩) (fun t ht e => ?_)
    subst e
    rcases c with q | q
    · exact absurd q (in20 ht).1
    · exact absurd q (in20 ht).2
  · subst e
    have h1 := h.x hq hI1
    obtain ⟨J, hJ⟩ := h.tc ht
    refine clo σ1 h1 _ (fun c => ?_) (fun t' ht' e => ?_)
    · rcases c with g | g
      · exact absurd g (in20 ht).1
      · exact absurd g (in20 ht).2
    · have et : t = t' := (nI_eq (by omega) (by omega)).mp e
      subst et
      refine ⟨fun v => ⟨rfl, (h1.m (MQs.d σ1 v)).iv hn⟩, fun g r hg => ?_⟩
      rw [raB_of hq.qq.m] at hg
      rcases hJ.root (h.so ht) (h.le ht) 0 with ⟨g1, g2⟩ | ⟨k, b, g1, g2, g3⟩
      · rw [g1] at hg; cases hg
      · rcases q with q | q
        · rw [hq.qq.i (a := 78) (by omega) (by unfold sci; omega)] at g
          rw [(c1 t ht).1] at q
          rcases c2 t ht with z | z | z
          · exact q z.1
          · rw [z.1] at g; exact g (by decide)
          · rw [z.1] at g; exact g (by decide)
        · rw [q] at g2; cases g2
  · subst e
    obtain ⟨J, hJ⟩ := h.tc ht
    have hst : gi σ 78 t = 0 := by rw [← (c1 t ht).1]; exact hs0
    have htk : t ∉ klO σ ol := fun q => by
      have := (List.mem_filter.mp q).2
      rw [decide_eq_true_eq, hst] at this
      exact absurd this (by decide)
    have hmk : ∀ o, o ∈ klO σ ol → o < 20 := fun o ho => OD_mem ol 0 c5 o (List.mem_filter.mp ho).1
    have hkl : (klO σ ol).length < 20 := by
      have hnd : (t :: klO σ ol).Nodup := List.nodup_cons.mpr ⟨htk, c4.sublist List.filter_sublist⟩
      have := List.Nodup.length_le_of_subset hnd (l₂ := List.range 20) (fun u hu => by
        rcases List.mem_cons.mp hu with q | q
        · rw [q]; exact List.mem_range.mpr ht
        · exact List.mem_range.mpr (hmk u q))
      simp at this
      omega
    rcases hJ.root (h.so ht) (h.le ht) 0 with ⟨g1, g2⟩ | ⟨k, b, g1, g2, g3⟩
    · rw [hr] at g2; cases g2
    · rw [hr] at g2; cases g2
      refine ⟨hkl, fun σ1 σ2 hq hs hI2 hP => ?_⟩
      have hpl : (phX σ lw).length ≤ 60 := Nat.le_trans (phX_len σ lw) hw2
      have q3 : ∀ a k, a < 103 → ¬ sci a k → ¬ (a = 28 + 2 * t ∧ k = 7) → a ≠ 29 + 2 * t → gi σ2 a k = gi σ a k := fun a k e1 e2 e3 e4 => (hs.2.2.2 a k e3 e4).trans (hq.qq.i e1 e2)
      have q4 : ∀ a, ¬ scl a → gl σ2 a = gl σ a := fun a e => by rw [hs.2.1]; exact hq.qq.2.2.2.1 a e
      have q5 : ∀ a k, a < 103 → gr σ2 a k = gr σ a k := fun a k e => by rw [hs.2.2.1]; exact hq.2.1 a k e
      have hby : byX σ (up1 pth t (phX σ lw)) t (L t) a = 0 ∨ byX σ (up1 pth t (phX σ lw)) t (L t) a = 1 ∨ byX σ (up1 pth t (phX σ lw)) t (L t) a = 2 ∨ byX σ (up1 pth t (phX σ lw)) t (L t) a = 3 := byA_in _ _ _ _ _
      have tr3 : ∀ u k, u < 20 → (k = 3 ∨ k = 4 ∨ k = 5) → gi σ2 (28 + 2 * u) k = gi σ (28 + 2 * u) k := fun u k hu hk => q3 _ k (by omega) (by unfold sci; omega) (by omega) (by omega)
      have fin : ∀ σx : Sto, sn σx = sn σ2 → gr σx = gr σ2 → gl σx = gl σ2 → (∀ a k, ¬ (28 ≤ a ∧ a < 68 ∧ a % 2 = 0 ∧ (k = 3 ∨ k = 4 ∨ k = 5)) → a ≠ 27 → ¬ (a = 1 ∧ (k = 7 ∨ k = 14 ∨ k = 15)) → gi σx a k = gi σ2 a k) → (∀ u, u < 20 → gi σx (28 + 2 * u) 3 = up1 (gi σ 78) t (if 0 < byX σ (up1 pth t (phX σ lw)) t (L t) a then 1 else 2) u ∧ gi σx (28 + 2 * u) 4 = up1 (gi σ 80) t (byX σ (up1 pth t (phX σ lw)) t (L t) a) u ∧ gi σx (28 + 2 * u) 5 = (if 0 < byX σ (up1 pth t (phX σ lw)) t (L t) a then up1 (gi σ 79) t 1 else inO (gi σ 79) ((klO σ ol).reverse.find? (fun o => eqL (up1 pth t (phX σ lw) o) (phX σ lw)))) u) → gi σx 1 15 = gi σ 1 15 + 1 → gi σx 1 7 = nI (klO σ ol ++ (if 0 < byX σ (up1 pth t (phX σ lw)) t (L t) a then [t] else [])).length → KL σx (klO σ ol ++ (if 0 < byX σ (up1 pth t (phX σ lw)) t (L t) a then [t] else [])) → (gi σx 1 14 = if 0 < byX σ (up1 pth t (phX σ lw)) t (L t) a ∨ ¬ (klO σ ol).reverse.find? (fun o => eqL (up1 pth t (phX σ lw) o) (phX σ lw)) = none then gi σ 1 14 else gi σ 1 14 + 1) → ∀ v, v = byX σ (up1 pth t (phX σ lw)) t (L t) a → CI (d + 40) 152 [aR (some 68), aI (nI t)] σx (fun b σ2 => v = b ∧ IV N xs σ2 (n + 1)) := fun σx f1 f2 f3 f4 f5 f6 f7 f8 f9 v hv => by
        subst hv
        refine cl_M h ht hst hJ g1 g3 hw1 (f1.trans (hs.1.trans hq.1)) (funext fun j => by rw [f2]; exact q5 68 j (by omega)) (fun b j e1 e2 => ?_) (fun b e1 e2 => ?_) (fun σ3 hc => ⟨rfl, cl_I h hn ht hst hpl hby hI2 hq hs hP f1 f2 f3 f4 f5 f6 f7 f8 f9 hc⟩)
        · rw [f4 b j (by omega) (by omega) (by omega), hs.2.2.2 b j (by omega) (by omega)]
          exact hq.2.2.2.2.1 b j (by omega) (by omega) (by omega) (by omega) (by omega) (by omega) (by omega)
        · rw [f3, hs.2.1]
          exact hq.2.2.2.2.2 b (by omega) (by omega) (by omega) (by omega) (by omega)
      have e15 : gi σ2 1 15 = gi σ 1 15 := q3 1 15 (by omega) (by unfold sci; omega) (by omega) (by omega)
      have e14 : gi σ2 1 14 = gi σ 1 14 := q3 1 14 (by omega) (by unfold sci; omega) (by omega) (by omega)
      have e7 : gi σ2 1 7 = nI (klO σ ol).length := by rw [q3 1 7 (by omega) (by unfold sci; omega) (by omega) (by omega)]; exact c9
      have hK2 : ∀ i o, (klO σ ol)[i]? = some o → o < 20 ∧ gi σ2 27 i = nI o := fun i o hio => ⟨(c8 i o hio).1, by rw [q3 27 i (by omega) (by unfold sci; omega) (by omega) (by omega)]; exact (c8 i o hio).2⟩
      refine ⟨fun b0 => ?_, fun b0 => ?_⟩
      · have nb : ¬ (0 : Int32) < 0 := by decide
        have nb' : ¬ 0 < byX σ (up1 pth t (phX σ lw)) t (L t) a := by rw [b0]; decide
        cases hlt : (klO σ ol).reverse.find? (fun o => eqL (up1 pth t (phX σ lw) o) (phX σ lw)) with
        | none =>
          have gx : ∀ a k, gi (lvX (si σ2 1 15 (gi σ 1 15 + 1)) t none) a k = if a = 1 ∧ k = 14 then gi σ 1 14 + 1 else if a = 28 + 2 * t ∧ k = 3 then 2 else if a = 1 ∧ k = 15 then gi σ 1 15 + 1 else gi σ2 a k := fun a k => by
            unfold lvX
            rw [gi_si_k, gi_si_k, gi_si_k, gi_si_k, if_neg (show ¬ ((1 : Nat) = 1 ∧ (14 : Nat) = 15) by omega), e14]
          refine fin (lvX (si σ2 1 15 (gi σ 1 15 + 1)) t none) rfl rfl rfl (fun a k e1 e2 e3 => ?_) (fun u hu => ?_) ?_ ?_ ?_ ?_ 0 b0.symm
          · rw [gx, if_neg (by omega), if_neg (by omega), if_neg (by omega)]
          · refine ⟨?_, ?_, ?_⟩
            · rw [gx, if_neg (by omega), if_neg nb']
              by_cases e : u = t
              · rw [if_pos (by omega), e, up1_s]
              · rw [if_neg (by omega), if_neg (by omega), up1_n e, tr3 u 3 hu (by omega), (c1 u hu).1]
            · rw [gx, if_neg (by omega), if_neg (by omega), if_neg (by omega), tr3 u 4 hu (by omega), (c1 u hu).2.1, b0]
              by_cases e : u = t
              · rw [e, up1_s]; exact (c3 t ht).2 hst
              · rw [up1_n e]
            · rw [gx, if_neg (by omega), if_neg (by omega), if_neg (by omega), tr3 u 5 hu (by omega), (c1 u hu).2.2, if_neg nb', hlt]
              rfl
          · rw [gx, if_neg (by omega), if_neg (by omega), if_pos ⟨rfl, rfl⟩]
          · rw [gx, if_neg (by omega), if_neg (by omega), if_neg (by omega), e7, if_neg nb', List.append_nil]
          · rw [if_neg nb', List.append_nil]
            intro i o hio
            rw [gx, if_neg (by omega), if_neg (by omega), if_neg (by omega)]
            exact hK2 i o hio
          · rw [gx, if_pos ⟨rfl, rfl⟩, hlt, if_neg (fun q => by rcases q with q | q; exact nb' q; exact q rfl)]
        | some o =>
          have ho : o ∈ klO σ ol := List.mem_reverse.mp (List.mem_of_find?_eq_some hlt)
          have ho20 := hmk o ho
          have hot : o ≠ t := fun q => htk (by rw [← q]; exact ho)
          have gx : ∀ a k, gi (lvX (si σ2 1 15 (gi σ 1 15 + 1)) t (some o)) a k = if a = 28 + 2 * o ∧ k = 5 then gi σ (28 + 2 * o) 5 + 1 else if a = 28 + 2 * t ∧ k = 3 then 2 else if a = 1 ∧ k = 15 then gi σ 1 15 + 1 else gi σ2 a k := fun a k => by
            unfold lvX
            rw [gi_si_k, gi_si_k, gi_si_k, gi_si_k, if_neg (show ¬ (28 + 2 * o = 1 ∧ (5 : Nat) = 15) by omega), tr3 o 5 ho20 (by omega)]
          refine fin (lvX (si σ2 1 15 (gi σ 1 15 + 1)) t (some o)) rfl rfl rfl (fun a k e1 e2 e3 => ?_) (fun u hu => ?_) ?_ ?_ ?_ ?_ 0 b0.symm
          · rw [gx, if_neg (by omega), if_neg (by omega), if_neg (by omega)]
          · refine ⟨?_, ?_, ?_⟩
            · rw [gx, if_neg (by omega), if_neg nb']
              by_cases e : u = t
              · rw [if_pos (by omega), e, up1_s]
              · rw [if_neg (by omega), if_neg (by omega), up1_n e, tr3 u 3 hu (by omega), (c1 u hu).1]
            · rw [gx, if_neg (by omega), if_neg (by omega), if_neg (by omega), tr3 u 4 hu (by omega), (c1 u hu).2.1, b0]
              by_cases e : u = t
              · rw [e, up1_s]; exact (c3 t ht).2 hst
              · rw [up1_n e]
            · rw [gx, if_neg nb', hlt]
              show _ = up1 (gi σ 79) o (gi σ 79 o + 1) u
              by_cases e : u = o
              · rw [if_pos (by omega), e, up1_s, (c1 o ho20).2.2]
              · rw [if_neg (by omega), if_neg (by omega), if_neg (by omega), up1_n e, tr3 u 5 hu (by omega), (c1 u hu).2.2]
          · rw [gx, if_neg (by omega), if_neg (by omega), if_pos ⟨rfl, rfl⟩]
          · rw [gx, if_neg (by omega), if_neg (by omega), if_neg (by omega), e7, if_neg nb', List.append_nil]
          · rw [if_neg nb', List.append_nil]
            intro i o' hio
            rw [gx, if_neg (by omega), if_neg (by omega), if_neg (by omega)]
            exact hK2 i o' hio
          · rw [gx, if_neg (by omega), if_neg (by omega), if_neg (by omega), hlt, if_pos (Or.inr (Option.some_ne_none o)), e14]
      · have pb : 0 < byX σ (up1 pth t (phX σ lw)) t (L t) a := by
          rcases hby with q | q | q | q
          · exact absurd q b0
          · rw [q]; decide
          · rw [q]; decide
          · rw [q]; decide
        have gx : ∀ b k, gi (kpX (si σ2 1 15 (gi σ 1 15 + 1)) t (klO σ ol).length (byX σ (up1 pth t (phX σ lw)) t (L t) a)) b k = if b = 1 ∧ k = 7 then nI ((klO σ ol).length + 1) else if b = 27 ∧ k = (klO σ ol).length then nI t else if b = 28 + 2 * t ∧ k = 5 then 1 else if b = 28 + 2 * t ∧ k = 4 then byX σ (up1 pth t (phX σ lw)) t (L t) a else if b = 28 + 2 * t ∧ k = 3 then 1 else if b = 1 ∧ k = 15 then gi σ 1 15 + 1 else gi σ2 b k := fun b k => by
          unfold kpX
          rw [gi_si_k, gi_si_k, gi_si_k, gi_si_k, gi_si_k, gi_si_k]
        refine fin (kpX (si σ2 1 15 (gi σ 1 15 + 1)) t (klO σ ol).length (byX σ (up1 pth t (phX σ lw)) t (L t) a)) rfl rfl rfl (fun a k e1 e2 e3 => ?_) (fun u hu => ?_) ?_ ?_ ?_ ?_ _ rfl
        · rw [gx, if_neg (by omega), if_neg (by omega), if_neg (by omega), if_neg (by omega), if_neg (by omega), if_neg (by omega)]
        · rw [if_pos pb, if_pos pb]
          by_cases e : u = t
          · rw [e, up1_s, up1_s, up1_s]
            refine ⟨?_, ?_, ?_⟩
            · rw [gx, if_neg (by omega), if_neg (by omega), if_neg (by omega), if_neg (by omega), if_pos (by omega)]
            · rw [gx, if_neg (by omega), if_neg (by omega), if_neg (by omega), if_pos (by omega)]
            · rw [gx, if_neg (by omega), if_neg (by omega), if_pos (by omega)]
          · rw [up1_n e, up1_n e, up1_n e]
            refine ⟨?_, ?_, ?_⟩
            · rw [gx, if_neg (by omega), if_neg (by omega), if_neg (by omega), if_neg (by omega), if_neg (by omega), if_neg (by omega), tr3 u 3 hu (by omega), (c1 u hu).1]
            · rw [gx, if_neg (by omega), if_neg (by omega), if_neg (by omega), if_neg (by omega), if_neg (by omega), if_neg (by omega), tr3 u 4 hu (by omega), (c1 u hu).2.1]
            · rw [gx, if_neg (by omega), if_neg (by omega), if_neg (by omega), if_neg (by omega), if_neg (by omega), if_neg (by omega), tr3 u 5 hu (by omega), (c1 u hu).2.2]
        · rw [gx, if_neg (by omega), if_neg (by omega), if_neg (by omega), if_neg (by omega), if_neg (by omega), if_pos ⟨rfl, rfl⟩]
        · rw [gx, if_pos ⟨rfl, rfl⟩, if_pos pb, List.length_append]; rfl
        · rw [if_pos pb]
          intro i o hio
          rw [gx, if_neg (by omega)]
          by_cases e : i = (klO σ ol).length
          · rw [if_pos ⟨rfl, e⟩]
            rw [e, List.getElem?_append_right (Nat.le_refl _), Nat.sub_self] at hio
            simp at hio
            rw [← hio]
            exact ⟨ht, rfl⟩
          · rw [if_neg (by omega), if_neg (by omega), if_neg (by omega), if_neg (by omega), if_neg (by omega)]
            have hlt : i < (klO σ ol).length := by
              have := (List.getElem?_eq_some_iff.mp hio).1
              rw [List.length_append] at this
              simp at this
              omega
            rw [List.getElem?_append_left hlt] at hio
            exact hK2 i o hio
        · rw [gx, if_neg (by omega), if_neg (by omega), if_neg (by omega), if_neg (by omega), if_neg (by omega), if_neg (by omega), if_pos (Or.inl pb), e14]
end
