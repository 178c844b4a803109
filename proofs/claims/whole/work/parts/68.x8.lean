/-! the class: pairs told, sums -/
theorem scS.xb {l : List Nat} {T : Nat} {σ σ' : Sto} (h : scS l T σ σ') (hl : ∀ a, a ∈ l → 103 ≤ a) (hX : XB σ) : XB σ' := XB_of (Nat.le_of_eq h.1.symm) (fun a k ha _ => h.2.2.2 a k (fun q => by have := hl a q.1; omega)) hX
def tpS (σ : Sto) (l : List Nat) (a : Nat) (o : Nat → Option Int64) : Nat → Option Int64 := match uX σ l a with
  | none => o
  | some p => if prB (rwX σ 0 p) (rwX σ 0 a) then lnR (rwX σ 0 p) (rwX σ 0 a) o else o
def tpL (σ : Sto) (l : List Nat) : List Nat → (Nat → Option Int64) → Nat → Option Int64
  | [], o => o
  | a :: m, o => tpL σ l m (tpS σ l a o)
theorem scZ.rw {a : Nat} {σ σ' : Sto} (h : scZ a σ σ') {t : Int32} {b : Nat} (hb : b ≠ a) : rwX σ' t b = rwX σ t b := by
  unfold rwX
  rw [h.2.2.1, h.2.2.2 b hb]
theorem scZ.u {a : Nat} {σ σ' : Sto} (h : scZ a σ σ') (l : List Nat) : uX σ' l = uX σ l := by
  funext b
  have e : nuX σ' = nuX σ := by funext x c; unfold nuX; rw [h.2.2.1]
  unfold uX
  rw [e, h.2.2.1]
theorem scZ.set {a : Nat} {σ σ' : Sto} (h : scZ a σ σ') {l : List Nat} (hS : SET σ l) : SET σ' l := fun b hb => by
  rw [h.u, h.2.1, h.2.2.1]
  exact hS b hb
theorem scZ.tr {a : Nat} {σ σ' : Sto} (h : scZ a σ σ') {T : Nat} {l : List Nat} (hTr : Tr σ T l) : Tr σ' T l := by
  obtain ⟨a1, a2, a3, a4, a5, a6⟩ := hTr
  refine ⟨okO_of h.1 a1, a2, by rw [h.2.1]; exact a3, lkt_of (Nat.le_of_eq h.1.symm) (fun a _ => by rw [h.2.1]) a4, a5, ?_⟩
  rw [h.2.2.1]
  exact a6.imp (fun q => q) (fun q => ⟨q.1, h.set q.2⟩)
theorem X_tellPairs_loop {d : Nat} {σ : Sto} {K : Sto → Prop} {T : Nat} {l : List Nat} (hX : XB σ) (hTr : Tr σ T l) (hS : SET σ l) (hR : ∀ a, a ∈ l → ∃ t, okR (rwX σ t a)) : ∀ (m : List Nat) (σ1 : Sto) (o : Nat → Option Int64), lkt σ m none → (∀ a, a ∈ m → a ∈ l) → scZ 8 σ σ1 → RpX σ1 8 o → (∀ σ2, scZ 8 σ σ2 → RpX σ2 8 (tpL σ l m o) → K σ2) → Ev (d + 2, 0, 0) 44 9 [aR (some T), aR (some 7), aR m.head?] [] σ1 (eV K) := by
  have hge : ∀ a, a ∈ l → 103 ≤ a := fun a ha => (lkt_mem hTr.2.2.2.1 a ha).1
  intro m
  induction m with
  | nil =>
    intro σ1 o hl hm hs hR8 h
    rw [v_44_9]
    simp only [List.head?_nil, v_44_10, v_44_37, eV_eq, z10, z00, not_true_eq_false, not_false_eq_true, false_implies, true_implies, implies_true, true_and, and_true, true_or, or_true, false_and, and_false, false_or, or_false]
    exact h σ1 hs hR8
  | cons a m ih =>
    intro σ1 o hl hm hs hR8 h
    obtain ⟨h1, h2, h3, h4⟩ := hl
    rw [Option.or_none] at h3
    have hal := hm a (List.mem_cons_self ..)
    have hml : ∀ b, b ∈ m → b ∈ l := fun b hb => hm b (List.mem_cons_of_mem _ hb)
    have hX1 := hs.xb hX
    have hTr1 := hs.tr hTr
    have hS1 := hs.set hS
    have hO1 := hTr1.ok a hal
    have h31 : gr σ1 a 8 = m.head? := by rw [hs.2.1]; exact h3
    obtain ⟨s1, -, -⟩ := hS1 a hal
    rw [hs.u] at s1
    have epa : paX σ1 (uX σ l a) a = (match uX σ l a with
        | none => false
        | some p => prB (rwX σ 0 p) (rwX σ 0 a)) := by
      cases hu : uX σ l a with
      | none => rfl
      | some p =>
        have hp := hge p (uX_mem hu)
        show prB (rwX σ1 0 p) (rwX σ1 0 a) = prB (rwX σ 0 p) (rwX σ 0 a)
        rw [hs.rw (by omega), hs.rw (by omega)]
    rw [v_44_9]
    simp only [List.head?_cons, reduceCtorEq, z10, z00, not_true_eq_false, not_false_eq_true, false_implies, true_implies, implies_true, nI_1, Int32.add_zero, true_or, or_true, true_and, and_true, eI_eq, eL_eq, eR_eq, eV_eq, lg_cmp_ge, lg_cmp_le, lg_cmp_gt, lg_cmp_lt, lg_cmp_eq, v_44_10, v_44_13, v_44_14, hO1, z10, z00, not_true_eq_false, not_false_eq_true, false_implies, true_implies, implies_true, true_and, and_true, true_or, or_true, false_and, and_false, false_or, or_false]
    refine X_isPair hO1 (fun p hp => hTr1.ok p (uX_mem (by rw [s1] at hp; exact hp))) ?_
    rw [s1, epa]
    have go : ∀ σ3 o', scZ 8 σ σ3 → RpX σ3 8 o' → o' = tpS σ l a o → Ev (d + 2, 0, 0) 44 29 [aR (some T), aR (some 7), aR (some a)] [] σ3 (eV K) := by
      intro σ3 o' hs3 hR3 e
      have h33 : gr σ3 a 8 = m.head? := by rw [hs3.2.1]; exact h3
      simp only [z10, z00, not_true_eq_false, not_false_eq_true, false_implies, true_implies, implies_true, nI_1, Int32.add_zero, true_or, or_true, true_and, and_true, eI_eq, eL_eq, eR_eq, eV_eq, lg_cmp_ge, lg_cmp_le, lg_cmp_gt, lg_cmp_lt, lg_cmp_eq, v_44_29, v_44_30, v_44_33, v_44_34, okO_of hs3.1 (hTr.ok a hal), h33]
      refine ih σ3 o' h4 hml hs3 hR3 (fun σ4 q1 q2 => h σ4 q1 ?_)
      rw [tpL, ← e]
      exact q2
    cases hu : uX σ l a with
    | none =>
      simp only [bI, Bool.false_eq_true, if_false, v_44_17, z10, z00, not_true_eq_false, not_false_eq_true, false_implies, true_implies, implies_true, true_and, and_true, true_or, or_true, false_and, and_false, false_or, or_false]
      refine go σ1 o hs hR8 ?_
      unfold tpS
      rw [hu]
    | some p =>
      have hpl := uX_mem hu
      have hp3 := hge p hpl
      simp only
      cases hpr : prB (rwX σ 0 p) (rwX σ 0 a) with
      | false =>
        simp only [bI, Bool.false_eq_true, if_false, v_44_17, z10, z00, not_true_eq_false, not_false_eq_true, false_implies, true_implies, implies_true, true_and, and_true, true_or, or_true, false_and, and_false, false_or, or_false]
        refine go σ1 o hs hR8 ?_
        unfold tpS
        rw [hu]
        simp [hpr]
      | true =>
        rw [hu] at s1
        simp only [bI, if_true, z10, z00, not_true_eq_false, not_false_eq_true, false_implies, true_implies, implies_true, nI_1, Int32.add_zero, true_or, or_true, true_and, and_true, eI_eq, eL_eq, eR_eq, eV_eq, lg_cmp_ge, lg_cmp_le, lg_cmp_gt, lg_cmp_lt, lg_cmp_eq, v_44_17, v_44_20, v_44_21, v_44_22, v_44_25, v_44_26, hO1, s1, hX1.o7, z10, z00, not_true_eq_false, not_false_eq_true, false_implies, true_implies, implies_true, true_and, and_true, true_or, or_true, false_and, and_false, false_or, or_false]
        obtain ⟨tp, hRp⟩ := hR p hpl
        obtain ⟨ta, hRa⟩ := hR a hal
        refine X_learn (tp := tp) (tk := ta) hX1 (hTr1.ok p hpl) hO1 hp3 h1 (by rw [hs.rw (by omega)]; exact hRp) (by rw [hs.rw (by omega)]; exact hRa) hR8 (fun σ2 q1 q2 => ?_)
        rw [hs.rw (by omega), hs.rw (by omega)] at q2
        refine go σ2 _ (hs.trans q1) q2 ?_
        unfold tpS
        rw [hu]
        simp [hpr]
theorem X_tellPairs {d : Nat} {σ : Sto} {K : Sto → Prop} {T : Nat} {l : List Nat} {o : Nat → Option Int64} (hX : XB σ) (hTr : Tr σ T l) (hR : ∀ a, a ∈ l → ∃ t, okR (rwX σ t a)) (hR8 : RpX σ 8 o) (h : ∀ σ1 σ2, scS l T σ σ1 → Tr σ1 T l → SET σ1 l → scZ 8 σ1 σ2 → RpX σ2 8 (tpL σ1 l l o) → K σ2) : CV (d + 2) 44 [aR (some T), aR (some 7)] σ K := by
  have hge : ∀ a, a ∈ l → 103 ≤ a := fun a ha => (lkt_mem hTr.2.2.2.1 a ha).1
  refine CV_of ?_
  show Ev (d + 2, 0, 0) 44 0 [aR (some T), aR (some 7), aU] [] σ _
  simp only [z10, z00, not_true_eq_false, not_false_eq_true, false_implies, true_implies, implies_true, nI_1, Int32.add_zero, true_or, or_true, true_and, and_true, eI_eq, eL_eq, eR_eq, eV_eq, lg_cmp_ge, lg_cmp_le, lg_cmp_gt, lg_cmp_lt, lg_cmp_eq, v_44_0, v_44_1, hTr.1]
  refine X_settle hTr (fun σ1 hs hTr1 hS1 => ?_)
  have hX1 := hs.xb hge hX
  have hR81 : RpX σ1 8 o := fun k hk => by rw [hs.2.1]; exact hR8 k hk
  have hRr : ∀ a, a ∈ l → ∃ t, okR (rwX σ1 t a) := fun a ha => by
    obtain ⟨t, ht⟩ := hR a ha
    exact ⟨t, by rw [hs.rw hTr.2.1 (hge a ha)]; exact ht⟩
  simp only [z10, z00, not_true_eq_false, not_false_eq_true, false_implies, true_implies, implies_true, nI_1, Int32.add_zero, true_or, or_true, true_and, and_true, eI_eq, eL_eq, eR_eq, eV_eq, lg_cmp_ge, lg_cmp_le, lg_cmp_gt, lg_cmp_lt, lg_cmp_eq, v_44_4, v_44_5, v_44_8, hTr1.1, hTr1.2.2.1]
  exact X_tellPairs_loop hX1 hTr1 hS1 hRr l σ1 o hTr1.2.2.2.1 (fun _ q => q) (scZ.rfl 8 σ1) hR81 (fun σ2 q1 q2 => h σ1 σ2 hs hTr1 hS1 q1 q2)
/-- how large a sum can be, in the round of z, before place k of 36 -/
def btF (z k M j : Nat) : Nat := if j < k then (if j / 6 ≠ z ∧ j % 6 ≠ z then 6 * M else if j / 6 = z ∧ j % 6 = z then 2 * M else 3 * M) else M
def bnd (z k M : Nat) (f : Nat → Option Int64) : Prop := ∀ j v, j < 36 → f j = some v → -(btF z k M j : Int) ≤ v.toInt ∧ v.toInt ≤ (btF z k M j : Int)
theorem lowO_le {o : Option Int64} {v w : Int64} (h : lowO o v = some w) : w = v ∨ o = some w := by
  unfold lowO at h
  cases o with
  | none => cases h; exact Or.inl rfl
  | some u =>
    simp only [Option.some.injEq] at h
    split at h
    · exact Or.inl h.symm
    · exact Or.inr (by rw [h])
theorem bnd_step {z x y M : Nat} (hz : z < 6) (hx : x < 6) (hy : y < 6) (hM : M ≤ 10000000000000) {f : Nat → Option Int64} (h : bnd z (6 * x + y) M f) : bnd z (6 * x + y + 1) M (fwS z x y f) ∧ (∀ a b, f (6 * x + z) = some a → f (6 * z + y) = some b → ¬ a + b = -9223372036854775808) := by
  have key : ∀ a b, f (6 * x + z) = some a → f (6 * z + y) = some b → (a + b).toInt = a.toInt + b.toInt ∧ -(btF z (6 * x + y + 1) M (6 * x + y) : Int) ≤ a.toInt + b.toInt ∧ a.toInt + b.toInt ≤ (btF z (6 * x + y + 1) M (6 * x + y) : Int) := by
    intro a b ha hb
    have h1 := h (6 * x + z) a (by omega) ha
    have h2 := h (6 * z + y) b (by omega) hb
    have d1 : (6 * x + z) / 6 = x := by omega
    have d2 : (6 * x + z) % 6 = z := by omega
    have d3 : (6 * z + y) / 6 = z := by omega
    have d4 : (6 * z + y) % 6 = y := by omega
    have d5 : (6 * x + y) / 6 = x := by omega
    have d6 : (6 * x + y) % 6 = y := by omega
    unfold btF at h1 h2 ⊢
    rw [d1, d2] at h1
    rw [d3, d4] at h2
    rw [d5, d6]
    have e : (a + b).toInt = a.toInt + b.toInt ∧ True := ⟨fb_addL (by split at h1 <;> split at h2 <;> (try split at h1) <;> (try split at h1) <;> (try split at h2) <;> (try split at h2) <;> omega) (by split at h1 <;> split at h2 <;> (try split at h1) <;> (try split at h1) <;> (try split at h2) <;> (try split at h2) <;> omega), trivial⟩
    refine ⟨e.1, ?_⟩
    rw [if_pos (by omega)]
    by_cases q1 : x = z <;> by_cases q2 : y = z
    · subst q1; subst q2
      simp only [ne_eq, not_true_eq_false, and_self, if_false, if_true]
      rw [if_neg (by omega)] at h1 h2
      omega
    · subst q1
      simp only [ne_eq, not_true_eq_false, false_and, if_false, q2, and_false]
      rw [if_neg (by omega)] at h2
      simp only [ne_eq, not_true_eq_false, false_and, if_false, and_self, if_true] at h1
      split at h1 <;> omega
    · subst q2
      simp only [ne_eq, not_true_eq_false, and_false, if_false, q1, false_and]
      rw [if_neg (by omega)] at h1
      simp only [ne_eq, not_true_eq_false, false_and, if_false, and_self, if_true] at h2
      split at h2 <;> omega
    · simp only [ne_eq, q1, q2, not_false_eq_true, and_self, if_true]
      simp only [ne_eq, not_true_eq_false, and_false, if_false, q1, false_and] at h1
      simp only [ne_eq, not_true_eq_false, and_false, if_false, q2, false_and] at h2
      split at h1 <;> split at h2 <;> omega
  have mono : ∀ j, btF z (6 * x + y) M j ≤ btF z (6 * x + y + 1) M j := by
    intro j
    unfold btF
    by_cases q : j < 6 * x + y
    · rw [if_pos q, if_pos (show j < 6 * x + y + 1 by omega)]
      exact Nat.le_refl _
    · rw [if_neg q]
      by_cases q2 : j < 6 * x + y + 1
      · rw [if_pos q2]
        split
        · omega
        · split <;> omega
      · rw [if_neg q2]
        exact Nat.le_refl _
  refine ⟨?_, fun a b ha hb q => ?_⟩
  · intro j v hj hv
    unfold fwS at hv
    cases ha : f (6 * x + z) with
    | none =>
      rw [ha] at hv
      have := h j v hj hv
      have := mono j
      omega
    | some a =>
      cases hb : f (6 * z + y) with
      | none =>
        rw [ha, hb] at hv
        have := h j v hj hv
        have := mono j
        omega
      | some b =>
        rw [ha, hb] at hv
        obtain ⟨k1, k2, k3⟩ := key a b ha hb
        simp only [up1] at hv
        by_cases q : j = 6 * x + y
        · rw [if_pos q] at hv
          rcases lowO_le hv with e | e
          · rw [e, q, k1]; exact ⟨k2, k3⟩
          · have := h (6 * x + y) v (by omega) e
            have := mono (6 * x + y)
            rw [q]
            omega
        · rw [if_neg q] at hv
          have := h j v hj hv
          have := mono j
          omega
  · obtain ⟨k1, k2, k3⟩ := key a b ha hb
    rw [q] at k1
    have e : (-9223372036854775808 : Int64).toInt = -9223372036854775808 := by decide
    have : btF z (6 * x + y + 1) M (6 * x + y) ≤ 6 * M := by
      unfold btF
      split
      · split
        · omega
        · split <;> omega
      · omega
    omega
theorem bnd_next {z M : Nat} {f : Nat → Option Int64} (h : bnd z 36 M f) : bnd (z + 1) 0 (6 * M) f := by
  intro j v hj hv
  have := h j v hj hv
  unfold btF at this ⊢
  rw [if_neg (by omega)]
  rw [if_pos hj] at this
  split at this
  · omega
  · split at this <;> omega
theorem X_lowerBy_loop {d : Nat} {σ : Sto} {K : Sto → Prop} {z x M : Nat} (hX : XB σ) (hz : z < 6) (hx : x < 6) (hM : M ≤ 10000000000000) : ∀ (n y : Nat) (σ1 : Sto) (f : Nat → Option Int64) (u4 u5 u6 u7 : AV), y + n = 6 → scZ 9 σ σ1 → RpX σ1 9 f → bnd z (6 * x + y) M f → (∀ σ2, scZ 9 σ σ2 → RpX σ2 9 (itr (fun y o => fwS z x y o) y n f) → bnd z (6 * x + 6) M (itr (fun y o => fwS z x y o) y n f) → K σ2) → Ev (d + 1, 0, 0) 5 2 [aR (some 7), aI (nI z), aI (nI x), aI (nI y), u4, u5, u6, u7] [] σ1 (eV K) := by
  intro n
  induction n with
  | zero =>
    intro y σ1 f u4 u5 u6 u7 hy hs hR hb h
    have hy' : y = 6 := by omega
    subst hy'
    have hle : (6 : Int32) ≤ nI 6 := by decide
    rw [v_5_2]
    simp only [z10, z00, not_true_eq_false, not_false_eq_true, false_implies, true_implies, implies_true, nI_1, Int32.add_zero, true_or, or_true, true_and, and_true, eI_eq, eL_eq, eR_eq, eV_eq, lg_cmp_ge, lg_cmp_le, lg_cmp_gt, lg_cmp_lt, lg_cmp_eq, v_5_3, v_5_5, v_5_8, v_5_9, v_5_12, v_5_13, v_5_15, v_5_16, v_5_17, v_5_18, v_5_19, v_5_21, v_5_22, v_5_25, v_5_26, v_5_28, v_5_29, v_5_30, v_5_31, v_5_32, v_5_34, v_5_36, v_5_39, v_5_40, v_5_43, v_5_45, v_5_48, v_5_49, v_5_52, v_5_53, v_5_56, v_5_57, v_5_59, v_5_60, v_5_61, v_5_62, v_5_64, v_5_66, v_5_67, v_5_70, v_5_73, v_5_76, hle]
    exact h σ1 hs hR hb
  | succ n ih =>
    intro y σ1 f u4 u5 u6 u7 hy hs hR hb h
    have hle : ¬ (6 : Int32) ≤ nI y := nI_ge (b := 6) (a := y) (by omega) (by omega)
    have hX1 := hs.xb hX
    have kxz : 6 * x + z < 36 := by omega
    have kzy : 6 * z + y < 36 := by omega
    have kxy : 6 * x + y < 36 := by omega
    have c1 : (nI (6 * x + z)).toNatClampNeg = 6 * x + z := nI_clamp (by omega)
    have c2 : (nI (6 * z + y)).toNatClampNeg = 6 * z + y := nI_clamp (by omega)
    obtain ⟨r1, r2⟩ := hR _ kxz
    obtain ⟨r3, r4⟩ := hR _ kzy
    obtain ⟨b1, b2⟩ := bnd_step hz hx (show y < 6 by omega) hM hb
    have e3 : itr (fun y o => fwS z x y o) y (n + 1) f = itr (fun y o => fwS z x y o) (y + 1) n (fwS z x y f) := rfl
    rw [e3] at h
    rw [v_5_2]
    simp only [z10, z00, not_true_eq_false, not_false_eq_true, false_implies, true_implies, implies_true, nI_1, Int32.add_zero, true_or, or_true, true_and, and_true, eI_eq, eL_eq, eR_eq, eV_eq, lg_cmp_ge, lg_cmp_le, lg_cmp_gt, lg_cmp_lt, lg_cmp_eq, v_5_3, v_5_5, v_5_8, v_5_9, v_5_12, v_5_13, v_5_15, v_5_16, v_5_17, v_5_18, v_5_19, v_5_21, v_5_22, v_5_25, v_5_26, v_5_28, v_5_29, v_5_30, v_5_31, v_5_32, v_5_34, v_5_36, v_5_39, v_5_40, v_5_43, v_5_45, v_5_48, v_5_49, v_5_52, v_5_53, v_5_56, v_5_57, v_5_59, v_5_60, v_5_61, v_5_62, v_5_64, v_5_66, v_5_67, v_5_70, v_5_73, v_5_76, hle, hX1.o7, hX1.r7_1, ix6', hX1.a9 kxz, hX1.a9 kzy, c1, c2, r1, r3, oL_no r2, oL_no r4]
    refine ⟨fun g => ?_, fun g => ⟨fun g2 => ?_, fun g2 => ?_⟩⟩
    · have e : fwS z x y f = f := by unfold fwS; rw [g]
      rw [e] at h b1
      exact ih (y + 1) σ1 f _ _ _ _ (by omega) hs hR b1 h
    · have e : fwS z x y f = f := by unfold fwS; rw [g2]; cases f (6 * x + z) <;> rfl
      rw [e] at h b1
      exact ih (y + 1) σ1 f _ _ _ _ (by omega) hs hR b1 h
    · cases ha : f (6 * x + z) with
      | none => exact absurd ha g
      | some a =>
        cases hb' : f (6 * z + y) with
        | none => exact absurd hb' g2
        | some b =>
          have e : fwS z x y f = up1 f (6 * x + y) (lowO (f (6 * x + y)) (a + b)) := by unfold fwS; rw [ha, hb']
          rw [e] at h b1
          have ea : oL (some a) = a := rfl
          have eb : oL (some b) = b := rfl
          rw [ea, eb]
          refine X_lower kxy (hX1.a9 kxy) hR (b2 a b ha hb') (fun σ2 q1 q2 => ?_)
          exact ih (y + 1) σ2 _ _ _ _ _ (by omega) (hs.trans q1) q2 b1 h
theorem X_lowerBy {d : Nat} {σ : Sto} {K : Sto → Prop} {z x M : Nat} {f : Nat → Option Int64} (hX : XB σ) (hz : z < 6) (hx : x < 6) (hM : M ≤ 10000000000000) (hR : RpX σ 9 f) (hb : bnd z (6 * x) M f) (h : ∀ σ2, scZ 9 σ σ2 → RpX σ2 9 (itr (fun y o => fwS z x y o) 0 6 f) → bnd z (6 * (x + 1)) M (itr (fun y o => fwS z x y o) 0 6 f) → K σ2) : CV (d + 1) 5 [aR (some 7), aI (nI z), aI (nI x)] σ K := by
  refine CV_of ?_
  show Ev (d + 1, 0, 0) 5 0 [aR (some 7), aI (nI z), aI (nI x), aU, aU, aU, aU, aU] [] σ _
  simp only [z10, z00, not_true_eq_false, not_false_eq_true, false_implies, true_implies, implies_true, nI_1, Int32.add_zero, true_or, or_true, true_and, and_true, eI_eq, eL_eq, eR_eq, eV_eq, lg_cmp_ge, lg_cmp_le, lg_cmp_gt, lg_cmp_lt, lg_cmp_eq, v_5_0, v_5_1]
  have := X_lowerBy_loop (d := d) (K := K) hX hz hx hM 6 0 σ f aU aU aU aU (by omega) (scZ.rfl 9 σ) hR hb h
  simpa only [nI_0] using this
