/-! the class: the ring -/
def RG (σ : Sto) (p : List Nat) : Prop := ∀ i q, p[i]? = some q → gi σ 11 i = nI q ∧ q < 6
def scN (σ σ' : Sto) : Prop := sn σ' = sn σ ∧ gr σ' = gr σ ∧ (∀ a, a ≠ 11 → gi σ' a = gi σ a) ∧ gl σ' = gl σ
theorem scN.rfl (σ : Sto) : scN σ σ := ⟨Eq.refl _, Eq.refl _, fun _ _ => Eq.refl _, Eq.refl _⟩
theorem scN.trans {σ σ' σ'' : Sto} (h1 : scN σ σ') (h2 : scN σ' σ'') : scN σ σ'' := ⟨h2.1.trans h1.1, h2.2.1.trans h1.2.1, fun a e => (h2.2.2.1 a e).trans (h1.2.2.1 a e), h2.2.2.2.trans h1.2.2.2⟩
theorem scN.xb {σ σ' : Sto} (h : scN σ σ') (hX : XB σ) : XB σ' := XB_of (Nat.le_of_eq h.1.symm) (fun b k _ _ => by rw [h.2.1]) hX
theorem scN.rp {σ σ' : Sto} (h : scN σ σ') {a : Nat} {o : Nat → Option Int64} (hR : RpX σ a o) : RpX σ' a o := fun k hk => by rw [h.2.2.2]; exact hR k hk
theorem X_isInRing_loop {b : B3} {σ : Sto} {K : Int32 → Sto → Prop} {x : Nat} {p : List Nat} (hX : XB σ) (hx : x < 6) (hp : p.length ≤ 6) (hG : RG σ p) : ∀ (m : List Nat) (i : Nat), p.drop i = m → i ≤ p.length → K (bI (decide (x ∈ m))) σ → Ev b 8 2 [aR (some 7), aI (nI x), aI (nI p.length), aI (nI i)] [] σ (eI K) := by
  intro m
  induction m with
  | nil =>
    intro i hd hi h
    have hi' : i = p.length := by
      have := congrArg List.length hd
      simp only [List.length_drop, List.length_nil] at this
      omega
    subst hi'
    have hle : nI p.length ≤ nI p.length := Int32.le_refl _
    rw [v_8_2]
    simp only [z10, z00, not_true_eq_false, not_false_eq_true, false_implies, true_implies, implies_true, nI_1, Int32.add_zero, true_or, or_true, true_and, and_true, eI_eq, eL_eq, eR_eq, eV_eq, lg_cmp_ge, lg_cmp_le, lg_cmp_gt, lg_cmp_lt, lg_cmp_eq, v_8_3, v_8_4, v_8_7, v_8_8, v_8_11, v_8_12, v_8_13, v_8_14, v_8_17, v_8_18, v_8_19, v_8_22, v_8_25, v_8_26, hle]
    simpa [bI] using h
  | cons q m ih =>
    intro i hd hi h
    have hlt : i < p.length := by
      have := congrArg List.length hd
      simp only [List.length_drop, List.length_cons] at this
      omega
    have hq : p[i]? = some q := by
      have := congrArg (fun z => z[0]?) hd
      simpa [List.getElem?_drop] using this
    have hd' : p.drop (i + 1) = m := by
      have := congrArg List.tail hd
      simpa [List.tail_drop] using this
    obtain ⟨g1, g2⟩ := hG i q hq
    have hle : ¬ nI p.length ≤ nI i := nI_ge (by omega) (by omega)
    have hc : (nI i).toNatClampNeg = i := nI_clamp (by omega)
    rw [v_8_2]
    simp only [z10, z00, not_true_eq_false, not_false_eq_true, false_implies, true_implies, implies_true, nI_1, Int32.add_zero, true_or, or_true, true_and, and_true, eI_eq, eL_eq, eR_eq, eV_eq, lg_cmp_ge, lg_cmp_le, lg_cmp_gt, lg_cmp_lt, lg_cmp_eq, v_8_3, v_8_4, v_8_7, v_8_8, v_8_11, v_8_12, v_8_13, v_8_14, v_8_17, v_8_18, v_8_19, v_8_22, v_8_25, v_8_26, hle, hX.o7, hX.r7_3, hX.x11 (k := i) (by omega), hc, g1, nI_eq (show q < 2 ^ 31 by omega) (show x < 2 ^ 31 by omega)]
    refine ⟨fun g => ih (i + 1) hd' (by omega) ?_, fun g => ?_⟩
    · have : (x ∈ q :: m) ↔ x ∈ m := by
        rw [List.mem_cons]
        exact ⟨fun z => z.elim (fun z => absurd z.symm g) (fun z => z), Or.inr⟩
      rw [decide_eq_decide.mpr this] at h
      exact h
    · rw [decide_eq_true (by rw [g]; exact List.mem_cons_self ..)] at h
      exact h
theorem X_isInRing {d : Nat} {σ : Sto} {K : Int32 → Sto → Prop} {x : Nat} {p : List Nat} (hX : XB σ) (hx : x < 6) (hp : p.length ≤ 6) (hG : RG σ p) (h : K (bI (decide (x ∈ p))) σ) : CI d 8 [aR (some 7), aI (nI x), aI (nI p.length)] σ K := by
  refine CI_of ?_
  show Ev (d, 0, 0) 8 0 [aR (some 7), aI (nI x), aI (nI p.length), aU] [] σ _
  simp only [z10, z00, not_true_eq_false, not_false_eq_true, false_implies, true_implies, implies_true, nI_1, Int32.add_zero, true_or, or_true, true_and, and_true, eI_eq, eL_eq, eR_eq, eV_eq, lg_cmp_ge, lg_cmp_le, lg_cmp_gt, lg_cmp_lt, lg_cmp_eq, v_8_0, v_8_1]
  have := X_isInRing_loop (b := (d, 0, 0)) (K := K) hX hx hp hG p 0 rfl (by omega) h
  simpa only [nI_0] using this
def clR (o : Nat → Option Int64) (h x : Nat) (s : Int64) : Bool := match o (6 * x + h) with
  | none => false
  | some w => decide (s + w < 0)
theorem X_closesRing {d : Nat} {σ : Sto} {K : Int32 → Sto → Prop} {x h0 : Nat} {s : Int64} {o : Nat → Option Int64} (hX : XB σ) (hx : x < 6) (hh : h0 < 6) (hR : RpX σ 8 o) (hG : gi σ 11 0 = nI h0) (h : K (bI (clR o h0 x s)) σ) : CI d 9 [aR (some 7), aI (nI x), aL s] σ K := by
  have kk : 6 * x + h0 < 36 := by omega
  have c1 : (nI (6 * x + h0)).toNatClampNeg = 6 * x + h0 := nI_clamp (by omega)
  have c0 : (0 : Int32).toNatClampNeg = 0 := by decide
  have x0 : okX σ 11 0 := hX.x11 (k := 0) (by decide)
  obtain ⟨r1, r2⟩ := hR _ kk
  refine CI_of ?_
  show Ev (d, 0, 0) 9 0 [aR (some 7), aI (nI x), aL s, aU, aU, aU] [] σ _
  simp only [z10, z00, not_true_eq_false, not_false_eq_true, false_implies, true_implies, implies_true, nI_1, Int32.add_zero, true_or, or_true, true_and, and_true, eI_eq, eL_eq, eR_eq, eV_eq, lg_cmp_ge, lg_cmp_le, lg_cmp_gt, lg_cmp_lt, lg_cmp_eq, v_9_0, v_9_1, v_9_4, v_9_5, v_9_7, v_9_8, v_9_9, v_9_12, v_9_13, v_9_14, v_9_15, v_9_16, v_9_18, v_9_20, v_9_23, v_9_24, v_9_27, v_9_28, v_9_30, v_9_31, v_9_32, v_9_33, v_9_36, v_9_37, v_9_40, v_9_41, hX.o7, hX.r7_0, hX.r7_3, x0, c0, hG, ix6', hX.a8 kk, c1, r1, oL_no r2]
  unfold clR at h
  refine ⟨fun g => by rw [g] at h; exact h, fun g => ?_⟩
  cases ho : o (6 * x + h0) with
  | none => exact absurd ho g
  | some w =>
    rw [ho] at h
    have e : oL (some w) = w := rfl
    rw [e]
    simp only at h
    refine ⟨fun q => ?_, fun q => ?_⟩
    · rw [decide_eq_false (Int64.not_lt.mpr q)] at h; exact h
    · rw [decide_eq_true (Int64.not_le.mp q)] at h; exact h
def fsF {β : Type} (g : Nat → Option β) : Nat → Nat → Option β
  | _, 0 => none
  | k, n + 1 => (g k).or (fsF g (k + 1) n)
def stR (o : Nat → Option Int64) (p : List Nat) (x : Nat) : Option Int64 := match p.getLast? with
  | none => some 0
  | some q => o (6 * q + x)
/-- one more place of a ring -/
def flG (o : Nat → Option Int64) (rec_ : Option (List Nat → Int64 → Option (List Nat))) (p : List Nat) (s : Int64) (x : Nat) : Option (List Nat) := match stR o p x with
  | none => none
  | some v => if x ∈ p then none else match rec_ with
    | none => if clR o ((p ++ [x]).head?.getD 0) x (s + v) then some (p ++ [x]) else none
    | some r => r (p ++ [x]) (s + v)
def flR (o : Nat → Option Int64) : Nat → List Nat → Int64 → Option (List Nat)
  | 0, _, _ => none
  | 1, p, s => fsF (flG o none p s) 0 6
  | n + 2, p, s => fsF (flG o (some (flR o (n + 1))) p s) 0 6
theorem RG.add {σ : Sto} {p : List Nat} {x : Nat} (h : RG σ p) (hx : x < 6) : RG (si σ 11 p.length (nI x)) (p ++ [x]) := fun i q hq => by
  rw [gi_si_k]
  by_cases hi : i = p.length
  · subst hi
    rw [List.getElem?_append_right (Nat.le_refl _), Nat.sub_self] at hq
    cases hq
    exact ⟨by simp, hx⟩
  · have hlt : i < p.length := by
      have := (List.getElem?_eq_some_iff.mp hq).1
      simp only [List.length_append, List.length_cons, List.length_nil] at this
      omega
    rw [if_neg (fun z => hi z.2)]
    rw [List.getElem?_append_left hlt] at hq
    exact h i q hq
theorem RG.pre {σ : Sto} {p m : List Nat} (h : RG σ (p ++ m)) : RG σ p := fun i q hq => by
  have hlt := (List.getElem?_eq_some_iff.mp hq).1
  exact h i q (by rw [List.getElem?_append_left hlt]; exact hq)
theorem X_fillRing_all {σ : Sto} {o : Nat → Option Int64} {m : Nat} (hX : XB σ) (hR : RpX σ 8 o) (hm : m ≤ 6) : ∀ (n : Nat) (d : Nat) (p : List Nat) (s : Int64) (σ1 : Sto) (K : Int32 → Sto → Prop), p.length + (n + 1) = m → scN σ σ1 → RG σ1 p → (flR o (n + 1) p s = none → ∀ σ2, scN σ σ2 → RG σ2 p → K 0 σ2) → (∀ r, flR o (n + 1) p s = some r → ∀ σ2, scN σ σ2 → RG σ2 r → r.length = m → K 1 σ2) → CI (d + n + 1) 7 [aR (some 7), aI (nI p.length), aI (nI m), aL s] σ1 K := by
  intro n
  induction n with
  | zero =>
    intro d p s σ1 K hpm hs hG h0 h1
    have hpl : p.length ≤ 5 := by omega
    have cA : nI p.length < (6 : Int32) := nI_lt (b := 6) (a := p.length) (by omega) (by omega)
    refine CI_of ?_
    show Ev (d + 0 + 1, 0, 0) 7 0 [aR (some 7), aI (nI p.length), aI (nI m), aL s, aU, aU, aU, aU, aU] [] σ1 _
    simp only [z10, z00, not_true_eq_false, not_false_eq_true, false_implies, true_implies, implies_true, nI_1, Int32.add_zero, true_or, or_true, true_and, and_true, eI_eq, eL_eq, eR_eq, eV_eq, lg_cmp_ge, lg_cmp_le, lg_cmp_gt, lg_cmp_lt, lg_cmp_eq, v_7_0, v_7_1, v_7_3, v_7_6, v_7_7, v_7_8, v_7_9, cA]
    rw [← nI_0]
    have loop : ∀ (k x : Nat) (σ1 : Sto) (u6 u7 u8 : AV), x + k = 6 → scN σ σ1 → RG σ1 p → (fsF (flG o none p s) x k = none → ∀ σ2, scN σ σ2 → RG σ2 p → K 0 σ2) → (∀ r, fsF (flG o none p s) x k = some r → ∀ σ2, scN σ σ2 → RG σ2 r → r.length = m → K 1 σ2) → Ev (d + 0 + 1, 0, 0) 7 11 [aR (some 7), aI (nI p.length), aI (nI m), aL s, aU, aI (nI x), u6, u7, u8] [] σ1 (eI K) := by
      intro k
      induction k with
      | zero =>
        intro x σ1 u6 u7 u8 hx hs hG h0 h1
        have hx' : x = 6 := by omega
        subst hx'
        have hle : (6 : Int32) ≤ nI 6 := by decide
        rw [v_7_11]
        simp only [z10, z00, not_true_eq_false, not_false_eq_true, false_implies, true_implies, implies_true, nI_1, Int32.add_zero, true_or, or_true, true_and, and_true, eI_eq, eL_eq, eR_eq, eV_eq, lg_cmp_ge, lg_cmp_le, lg_cmp_gt, lg_cmp_lt, lg_cmp_eq, v_7_13, v_7_15, v_7_132, v_7_133, hle]
        exact h0 rfl σ1 hs hG
      | succ k ih =>
        intro x σ1 u6 u7 u8 hx hs hG h0 h1
        have hle : ¬ (6 : Int32) ≤ nI x := nI_ge (b := 6) (a := x) (by omega) (by omega)
        have hX1 := hs.xb hX
        have hR1 := hs.rp hR
        have hx6 : x < 6 := by omega
        have e : fsF (flG o none p s) x (k + 1) = (flG o none p s x).or (fsF (flG o none p s) (x + 1) k) := rfl
        rw [e] at h0 h1
        have skip : ∀ σ3 u6 u7 u8, scN σ σ3 → RG σ3 p → flG o none p s x = none → Ev (d + 0 + 1, 0, 0) 7 126 [aR (some 7), aI (nI p.length), aI (nI m), aL s, aU, aI (nI x), u6, u7, u8] [] σ3 (eI K) := by
          intro σ3 u6 u7 u8 hs3 hG3 eN
          rw [eN, Option.none_or] at h0 h1
          simp only [z10, z00, not_true_eq_false, not_false_eq_true, false_implies, true_implies, implies_true, nI_1, Int32.add_zero, true_or, or_true, true_and, and_true, eI_eq, eL_eq, eR_eq, eV_eq, lg_cmp_ge, lg_cmp_le, lg_cmp_gt, lg_cmp_lt, lg_cmp_eq, v_7_126, v_7_129]
          exact ih (x + 1) σ3 u6 u7 u8 (by omega) hs3 hG3 h0 h1
        have body : ∀ v, stR o p x = some v → Ev (d + 0 + 1, 0, 0) 7 56 [aR (some 7), aI (nI p.length), aI (nI m), aL s, aU, aI (nI x), aL v, aU, u8] [] σ1 (eI K) := by
          intro v hv
          simp only [z10, z00, not_true_eq_false, not_false_eq_true, false_implies, true_implies, implies_true, nI_1, Int32.add_zero, true_or, or_true, true_and, and_true, eI_eq, eL_eq, eR_eq, eV_eq, lg_cmp_ge, lg_cmp_le, lg_cmp_gt, lg_cmp_lt, lg_cmp_eq, v_7_56, v_7_57, v_7_59, v_7_60, hX1.o7]
          refine X_isInRing hX1 hx6 (by omega) hG ?_
          by_cases hin : x ∈ p
          · rw [decide_eq_true hin]
            simp only [bI, if_true, v_7_63, z10, z00, not_true_eq_false, not_false_eq_true, false_implies, true_implies, implies_true, true_and, and_true, true_or, or_true, false_and, and_false, false_or, or_false]
            exact skip σ1 _ _ _ hs hG (by unfold flG; rw [hv]; simp [hin])
          · rw [decide_eq_false hin]
            have hpc : (nI p.length).toNatClampNeg = p.length := nI_clamp (by omega)
            have hs2 : scN σ (si σ1 11 p.length (nI x)) := hs.trans ⟨rfl, rfl, fun a ha => by rw [gi_si_r, if_neg ha], rfl⟩
            have hX2 := hs2.xb hX
            have hG2 := hG.add hx6
            have em : nI m - 1 = nI p.length := by
              rw [← hpm, show (1 : Int32) = nI 1 from rfl, pk_sub (by omega)]
              congr 1
            simp only [bI, Bool.false_eq_true, if_false, z10, z00, not_true_eq_false, not_false_eq_true, false_implies, true_implies, implies_true, nI_1, Int32.add_zero, true_or, or_true, true_and, and_true, eI_eq, eL_eq, eR_eq, eV_eq, lg_cmp_ge, lg_cmp_le, lg_cmp_gt, lg_cmp_lt, lg_cmp_eq, v_7_63, v_7_66, v_7_67, v_7_70, v_7_71, v_7_73, v_7_74, v_7_75, v_7_76, v_7_77, v_7_78, v_7_81, v_7_82, v_7_85, v_7_86, v_7_88, v_7_90, v_7_93, v_7_94, v_7_96, v_7_97, v_7_99, v_7_100, hX1.o7, hX1.r7_3, hX1.a11 (k := p.length) (by omega), hpc, em, hX2.o7, z10, z00, not_true_eq_false, not_false_eq_true, false_implies, true_implies, implies_true, true_and, and_true, true_or, or_true, false_and, and_false, false_or, or_false]
            have hh : ∃ h0, (p ++ [x]).head? = some h0 := by cases p <;> exact ⟨_, rfl⟩
            obtain ⟨h0', hh⟩ := hh
            have hg0 : (p ++ [x])[0]? = some h0' := by rw [← List.head?_eq_getElem?]; exact hh
            obtain ⟨gg1, gg2⟩ := hG2 0 h0' hg0
            refine X_closesRing hX2 hx6 gg2 (hs2.rp hR) gg1 ?_
            cases hcl : clR o h0' x (s + v) with
            | false =>
              simp only [bI, Bool.false_eq_true, if_false, v_7_103, z10, z00, not_true_eq_false, not_false_eq_true, false_implies, true_implies, implies_true, true_and, and_true, true_or, or_true, false_and, and_false, false_or, or_false]
              refine skip _ _ _ _ hs2 hG2.pre ?_
              unfold flG
              rw [hv]
              simp [hin, hh, hcl]
            | true =>
              simp only [bI, if_true, v_7_103, v_7_106, v_7_124, v_7_125, eI_eq, z10, z00, not_true_eq_false, not_false_eq_true, false_implies, true_implies, implies_true, true_and, and_true, true_or, or_true, false_and, and_false, false_or, or_false]
              have eS : flG o none p s x = some (p ++ [x]) := by
                unfold flG
                rw [hv]
                simp [hin, hh, hcl]
              rw [eS, Option.some_or] at h1
              exact h1 _ rfl _ hs2 hG2 (by rw [List.length_append]; simpa using hpm)
        rw [v_7_11]
        simp only [z10, z00, not_true_eq_false, not_false_eq_true, false_implies, true_implies, implies_true, nI_1, Int32.add_zero, true_or, or_true, true_and, and_true, eI_eq, eL_eq, eR_eq, eV_eq, lg_cmp_ge, lg_cmp_le, lg_cmp_gt, lg_cmp_lt, lg_cmp_eq, v_7_13, v_7_15, v_7_18, v_7_19, hle]
        cases hp : p.getLast? with
        | none =>
          have ep : p = [] := List.getLast?_eq_none_iff.mp hp
          have hst : stR o p x = some 0 := by unfold stR; rw [hp]
          have z1 : nI p.length = 0 := by rw [ep]; rfl
          have z2 : ¬ (0 : Int64) = -9223372036854775808 := by decide
          simp only [z1, z10, z00, not_true_eq_false, not_false_eq_true, false_implies, true_implies, implies_true, nI_1, Int32.add_zero, true_or, or_true, true_and, and_true, eI_eq, eL_eq, eR_eq, eV_eq, lg_cmp_ge, lg_cmp_le, lg_cmp_gt, lg_cmp_lt, lg_cmp_eq, v_7_22, v_7_23, v_7_26, v_7_27, v_7_30, v_7_31, v_7_34, v_7_35, v_7_36, v_7_37, v_7_38, v_7_40, v_7_41, v_7_43, v_7_44, v_7_45, v_7_47, v_7_49, v_7_52, v_7_53, z2, z10, z00, not_true_eq_false, not_false_eq_true, false_implies, true_implies, implies_true, true_and, and_true, true_or, or_true, false_and, and_false, false_or, or_false]
          have := body 0 hst
          rw [z1] at this
          exact this
        | some q =>
          have hne : p ≠ [] := fun q' => by rw [q'] at hp; cases hp
          have hpos : 0 < p.length := List.length_pos_iff.mpr hne
          have z1 : ¬ nI p.length = 0 := nI_ne0 hpos (by omega)
          have e1 : nI p.length - 1 = nI (p.length - 1) := by rw [show (1 : Int32) = nI 1 from rfl, pk_sub (by omega)]
          have c1 : (nI (p.length - 1)).toNatClampNeg = p.length - 1 := nI_clamp (by omega)
          have hlq : p[p.length - 1]? = some q := by rw [← List.getLast?_eq_getElem?]; exact hp
          obtain ⟨g1, g2⟩ := hG _ q hlq
          have kk : 6 * q + x < 36 := by omega
          have c2 : (nI (6 * q + x)).toNatClampNeg = 6 * q + x := nI_clamp (by omega)
          obtain ⟨r1, r2⟩ := hR1 _ kk
          have hst : stR o p x = o (6 * q + x) := by unfold stR; rw [hp]
          simp only [z1, z10, z00, not_true_eq_false, not_false_eq_true, false_implies, true_implies, implies_true, nI_1, Int32.add_zero, true_or, or_true, true_and, and_true, eI_eq, eL_eq, eR_eq, eV_eq, lg_cmp_ge, lg_cmp_le, lg_cmp_gt, lg_cmp_lt, lg_cmp_eq, v_7_26, v_7_27, v_7_30, v_7_31, v_7_34, v_7_35, v_7_36, v_7_37, v_7_38, v_7_40, v_7_41, v_7_43, v_7_44, v_7_45, v_7_47, v_7_49, v_7_52, v_7_53, hX1.o7, hX1.r7_0, hX1.r7_3, e1, hX1.x11 (k := p.length - 1) (by omega), c1, g1, ix6', hX1.a8 kk, c2, r1, oL_no r2, z10, z00, not_true_eq_false, not_false_eq_true, false_implies, true_implies, implies_true, true_and, and_true, true_or, or_true, false_and, and_false, false_or, or_false]
          refine ⟨fun g => skip σ1 _ _ _ hs hG (by unfold flG; rw [hst, g]), fun g => ?_⟩
          cases ho : o (6 * q + x) with
          | none => exact absurd ho g
          | some v =>
            exact body v (by rw [hst, ho])
    exact loop 6 0 σ1 aU aU aU (by omega) hs hG h0 h1
  | succ n ihn =>
    intro d p s σ1 K hpm hs hG h0 h1
    have hpl : p.length ≤ 5 := by omega
    have cA : nI p.length < (6 : Int32) := nI_lt (b := 6) (a := p.length) (by omega) (by omega)
    refine CI_of ?_
    show Ev (d + (n + 1) + 1, 0, 0) 7 0 [aR (some 7), aI (nI p.length), aI (nI m), aL s, aU, aU, aU, aU, aU] [] σ1 _
    simp only [z10, z00, not_true_eq_false, not_false_eq_true, false_implies, true_implies, implies_true, nI_1, Int32.add_zero, true_or, or_true, true_and, and_true, eI_eq, eL_eq, eR_eq, eV_eq, lg_cmp_ge, lg_cmp_le, lg_cmp_gt, lg_cmp_lt, lg_cmp_eq, v_7_0, v_7_1, v_7_3, v_7_6, v_7_7, v_7_8, v_7_9, cA]
    rw [← nI_0]
    have loop : ∀ (k x : Nat) (σ1 : Sto) (u6 u7 u8 : AV), x + k = 6 → scN σ σ1 → RG σ1 p → (fsF (flG o (some (flR o (n + 1))) p s) x k = none → ∀ σ2, scN σ σ2 → RG σ2 p → K 0 σ2) → (∀ r, fsF (flG o (some (flR o (n + 1))) p s) x k = some r → ∀ σ2, scN σ σ2 → RG σ2 r → r.length = m → K 1 σ2) → Ev (d + (n + 1) + 1, 0, 0) 7 11 [aR (some 7), aI (nI p.length), aI (nI m), aL s, aU, aI (nI x), u6, u7, u8] [] σ1 (eI K) := by
      intro k
      induction k with
      | zero =>
        intro x σ1 u6 u7 u8 hx hs hG h0 h1
        have hx' : x = 6 := by omega
        subst hx'
        have hle : (6 : Int32) ≤ nI 6 := by decide
        rw [v_7_11]
        simp only [z10, z00, not_true_eq_false, not_false_eq_true, false_implies, true_implies, implies_true, nI_1, Int32.add_zero, true_or, or_true, true_and, and_true, eI_eq, eL_eq, eR_eq, eV_eq, lg_cmp_ge, lg_cmp_le, lg_cmp_gt, lg_cmp_lt, lg_cmp_eq, v_7_13, v_7_15, v_7_132, v_7_133, hle]
        exact h0 rfl σ1 hs hG
      | succ k ih =>
        intro x σ1 u6 u7 u8 hx hs hG h0 h1
        have hle : ¬ (6 : Int32) ≤ nI x := nI_ge (b := 6) (a := x) (by omega) (by omega)
        have hX1 := hs.xb hX
        have hR1 := hs.rp hR
        have hx6 : x < 6 := by omega
        have e : fsF (flG o (some (flR o (n + 1))) p s) x (k + 1) = (flG o (some (flR o (n + 1))) p s x).or (fsF (flG o (some (flR o (n + 1))) p s) (x + 1) k) := rfl
        rw [e] at h0 h1
        have skip : ∀ σ3 u6 u7 u8, scN σ σ3 → RG σ3 p → flG o (some (flR o (n + 1))) p s x = none → Ev (d + (n + 1) + 1, 0, 0) 7 126 [aR (some 7), aI (nI p.length), aI (nI m), aL s, aU, aI (nI x), u6, u7, u8] [] σ3 (eI K) := by
          intro σ3 u6 u7 u8 hs3 hG3 eN
          rw [eN, Option.none_or] at h0 h1
          simp only [z10, z00, not_true_eq_false, not_false_eq_true, false_implies, true_implies, implies_true, nI_1, Int32.add_zero, true_or, or_true, true_and, and_true, eI_eq, eL_eq, eR_eq, eV_eq, lg_cmp_ge, lg_cmp_le, lg_cmp_gt, lg_cmp_lt, lg_cmp_eq, v_7_126, v_7_129]
          exact ih (x + 1) σ3 u6 u7 u8 (by omega) hs3 hG3 h0 h1
        have body : ∀ v, stR o p x = some v → Ev (d + (n + 1) + 1, 0, 0) 7 56 [aR (some 7), aI (nI p.length), aI (nI m), aL s, aU, aI (nI x), aL v, aU, u8] [] σ1 (eI K) := by
          intro v hv
          simp only [z10, z00, not_true_eq_false, not_false_eq_true, false_implies, true_implies, implies_true, nI_1, Int32.add_zero, true_or, or_true, true_and, and_true, eI_eq, eL_eq, eR_eq, eV_eq, lg_cmp_ge, lg_cmp_le, lg_cmp_gt, lg_cmp_lt, lg_cmp_eq, v_7_56, v_7_57, v_7_59, v_7_60, hX1.o7]
          refine X_isInRing hX1 hx6 (by omega) hG ?_
          by_cases hin : x ∈ p
          · rw [decide_eq_true hin]
            simp only [bI, if_true, v_7_63, z10, z00, not_true_eq_false, not_false_eq_true, false_implies, true_implies, implies_true, true_and, and_true, true_or, or_true, false_and, and_false, false_or, or_false]
            exact skip σ1 _ _ _ hs hG (by unfold flG; rw [hv]; simp [hin])
          · rw [decide_eq_false hin]
            have hpc : (nI p.length).toNatClampNeg = p.length := nI_clamp (by omega)
            have hs2 : scN σ (si σ1 11 p.length (nI x)) := hs.trans ⟨rfl, rfl, fun a ha => by rw [gi_si_r, if_neg ha], rfl⟩
            have hX2 := hs2.xb hX
            have hG2 := hG.add hx6
            have em : nI m - 1 = nI (m - 1) := by rw [show (1 : Int32) = nI 1 from rfl, pk_sub (by omega)]
            have ne : ¬ nI p.length = nI (m - 1) := fun q => by
              have := (nI_eq (show p.length < 2 ^ 31 by omega) (show m - 1 < 2 ^ 31 by omega)).mp q
              omega
            have el : p.length + 1 = (p ++ [x]).length := by simp
            have eF : flG o (some (flR o (n + 1))) p s x = flR o (n + 1) (p ++ [x]) (s + v) := by
              unfold flG
              rw [hv]
              simp [hin]
            simp only [bI, Bool.false_eq_true, if_false, z10, z00, not_true_eq_false, not_false_eq_true, false_implies, true_implies, implies_true, nI_1, Int32.add_zero, true_or, or_true, true_and, and_true, eI_eq, eL_eq, eR_eq, eV_eq, lg_cmp_ge, lg_cmp_le, lg_cmp_gt, lg_cmp_lt, lg_cmp_eq, v_7_63, v_7_66, v_7_67, v_7_70, v_7_71, v_7_73, v_7_74, v_7_75, v_7_76, v_7_77, v_7_78, v_7_81, v_7_82, v_7_85, v_7_86, v_7_88, v_7_90, v_7_93, v_7_94, v_7_96, v_7_97, v_7_99, v_7_100, v_7_103, v_7_106, v_7_109, v_7_110, v_7_111, v_7_112, v_7_113, v_7_114, v_7_115, v_7_117, v_7_118, hX1.o7, hX1.r7_3, hX1.a11 (k := p.length) (by omega), hpc, em, ne, nI_1, z10, z00, not_true_eq_false, not_false_eq_true, false_implies, true_implies, implies_true, true_and, and_true, true_or, or_true, false_and, and_false, false_or, or_false]
            rw [el]
            refine ihn d (p ++ [x]) (s + v) _ _ (by rw [← el]; omega) hs2 hG2 (fun eN σ3 q1 q2 => ?_) (fun r eS σ3 q1 q2 q3 => ?_)
            · simp only [v_7_121, z10, z00, not_true_eq_false, not_false_eq_true, false_implies, true_implies, implies_true, true_and, and_true, true_or, or_true, false_and, and_false, false_or, or_false]
              exact skip σ3 _ _ _ q1 q2.pre (by rw [eF]; exact eN)
            · simp only [v_7_121, v_7_124, v_7_125, eI_eq, z10, z00, not_true_eq_false, not_false_eq_true, false_implies, true_implies, implies_true, true_and, and_true, true_or, or_true, false_and, and_false, false_or, or_false]
              rw [eF, eS, Option.some_or] at h1
              exact h1 r rfl σ3 q1 q2 q3
        rw [v_7_11]
        simp only [z10, z00, not_true_eq_false, not_false_eq_true, false_implies, true_implies, implies_true, nI_1, Int32.add_zero, true_or, or_true, true_and, and_true, eI_eq, eL_eq, eR_eq, eV_eq, lg_cmp_ge, lg_cmp_le, lg_cmp_gt, lg_cmp_lt, lg_cmp_eq, v_7_13, v_7_15, v_7_18, v_7_19, hle]
        cases hp : p.getLast? with
        | none =>
          have ep : p = [] := List.getLast?_eq_none_iff.mp hp
          have hst : stR o p x = some 0 := by unfold stR; rw [hp]
          have z1 : nI p.length = 0 := by rw [ep]; rfl
          have z2 : ¬ (0 : Int64) = -9223372036854775808 := by decide
          simp only [z1, z10, z00, not_true_eq_false, not_false_eq_true, false_implies, true_implies, implies_true, nI_1, Int32.add_zero, true_or, or_true, true_and, and_true, eI_eq, eL_eq, eR_eq, eV_eq, lg_cmp_ge, lg_cmp_le, lg_cmp_gt, lg_cmp_lt, lg_cmp_eq, v_7_22, v_7_23, v_7_26, v_7_27, v_7_30, v_7_31, v_7_34, v_7_35, v_7_36, v_7_37, v_7_38, v_7_40, v_7_41, v_7_43, v_7_44, v_7_45, v_7_47, v_7_49, v_7_52, v_7_53, z2, z10, z00, not_true_eq_false, not_false_eq_true, false_implies, true_implies, implies_true, true_and, and_true, true_or, or_true, false_and, and_false, false_or, or_false]
          have := body 0 hst
          rw [z1] at this
          exact this
        | some q =>
          have hne : p ≠ [] := fun q' => by rw [q'] at hp; cases hp
          have hpos : 0 < p.length := List.length_pos_iff.mpr hne
          have z1 : ¬ nI p.length = 0 := nI_ne0 hpos (by omega)
          have e1 : nI p.length - 1 = nI (p.length - 1) := by rw [show (1 : Int32) = nI 1 from rfl, pk_sub (by omega)]
          have c1 : (nI (p.length - 1)).toNatClampNeg = p.length - 1 := nI_clamp (by omega)
          have hlq : p[p.length - 1]? = some q := by rw [← List.getLast?_eq_getElem?]; exact hp
          obtain ⟨g1, g2⟩ := hG _ q hlq
          have kk : 6 * q + x < 36 := by omega
          have c2 : (nI (6 * q + x)).toNatClampNeg = 6 * q + x := nI_clamp (by omega)
          obtain ⟨r1, r2⟩ := hR1 _ kk
          have hst : stR o p x = o (6 * q + x) := by unfold stR; rw [hp]
          simp only [z1, z10, z00, not_true_eq_false, not_false_eq_true, false_implies, true_implies, implies_true, nI_1, Int32.add_zero, true_or, or_true, true_and, and_true, eI_eq, eL_eq, eR_eq, eV_eq, lg_cmp_ge, lg_cmp_le, lg_cmp_gt, lg_cmp_lt, lg_cmp_eq, v_7_26, v_7_27, v_7_30, v_7_31, v_7_34, v_7_35, v_7_36, v_7_37, v_7_38, v_7_40, v_7_41, v_7_43, v_7_44, v_7_45, v_7_47, v_7_49, v_7_52, v_7_53, hX1.o7, hX1.r7_0, hX1.r7_3, e1, hX1.x11 (k := p.length - 1) (by omega), c1, g1, ix6', hX1.a8 kk, c2, r1, oL_no r2, z10, z00, not_true_eq_false, not_false_eq_true, false_implies, true_implies, implies_true, true_and, and_true, true_or, or_true, false_and, and_false, false_or, or_false]
          refine ⟨fun g => skip σ1 _ _ _ hs hG (by unfold flG; rw [hst, g]), fun g => ?_⟩
          cases ho : o (6 * q + x) with
          | none => exact absurd ho g
          | some v =>
            exact body v (by rw [hst, ho])
    exact loop 6 0 σ1 aU aU aU (by omega) hs hG h0 h1
