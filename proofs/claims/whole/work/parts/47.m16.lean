/-! the reference: drop -/
theorem okX_si (σ : Sto) (a k : Nat) (v : Int32) (x : Nat) (i : Int32) : okX (si σ a k v) x i = okX σ x i := rfl
theorem okX_sl (σ : Sto) (a k : Nat) (v : Int64) (x : Nat) (i : Int32) : okX (sl σ a k v) x i = okX σ x i := rfl
theorem rwM_stM (σ : Sto) (k : Nat) (r : Rw) (j : Nat) : rwM (stM σ k r) j = if j = k then r else rwM σ j := by
  unfold rwM stM
  simp only [gi_sl_r, gl_sl_r, gi_si_r, gl_si_r, up1]
  by_cases h : j = k
  · subst h
    simp [up1, rT, rN, rP, rV, rC, rK, rF, rB, rE]
  · simp [h, up1]
/-- nothing but rows and what is gone is written -/
def scD (σ σ' : Sto) : Prop := sn σ' = sn σ ∧ gr σ' = gr σ ∧ (∀ a, ¬ (69 ≤ a ∧ a ≤ 75) → a ≠ 101 → a ≠ 102 → gi σ' a = gi σ a) ∧ (∀ a, a ≠ 76 → a ≠ 77 → gl σ' a = gl σ a)
theorem scD.rfl (σ : Sto) : scD σ σ := ⟨Eq.refl _, Eq.refl _, fun _ _ _ _ => Eq.refl _, fun _ _ _ => Eq.refl _⟩
theorem scD.trans {σ σ' σ'' : Sto} (h1 : scD σ σ') (h2 : scD σ' σ'') : scD σ σ'' := ⟨h2.1.trans h1.1, h2.2.1.trans h1.2.1, fun a e1 e2 e3 => (h2.2.2.1 a e1 e2 e3).trans (h1.2.2.1 a e1 e2 e3), fun a e1 e2 => (h2.2.2.2 a e1 e2).trans (h1.2.2.2 a e1 e2)⟩
theorem scD.mb {σ σ' : Sto} {S : Nat} (h : scD σ σ') (hM : MB σ S) : MB σ' S := by
  obtain ⟨h1, h2, h3, h4⟩ := h
  unfold MB at hM ⊢
  rw [h1, h2, h3 68 (by omega) (by omega) (by omega)]
  exact hM
theorem scD.st (σ : Sto) (k : Nat) (r : Rw) : scD σ (stM σ k r) := by
  refine ⟨Eq.refl _, Eq.refl _, fun a h1 h2 h3 => ?_, fun a h1 h2 => ?_⟩
  · unfold stM
    simp only [gi_sl_r, gi_si_r]
    rw [if_neg (by omega), if_neg (by omega), if_neg (by omega), if_neg (by omega), if_neg (by omega), if_neg (by omega), if_neg (by omega)]
  · unfold stM
    simp only [gl_sl_r, gl_si_r]
    rw [if_neg (by omega), if_neg (by omega)]
def gfI (r : Rw) : Nat := 8 * (rV r).toNatClampNeg + (rC r).toNatClampNeg
def gnI (r : Rw) : Nat := 32 * gfI r + stp r
def gnL (gn : Nat → Nat) (l : List Rw) (i : Nat) : Nat := gn i + l.countP (fun r => decide (gnI r = i))
def gfL (gf : Nat → Nat) (l : List Rw) (i : Nat) : Nat := gf i + l.countP (fun r => decide (gfI r = i ∧ rF r = 1))
def isT (t : Int32) (r : Rw) : Bool := decide (rT r = t)
theorem rws_snoc (σ : Sto) : ∀ n k, rws σ k (n + 1) = rws σ k n ++ [rwM σ (k + n)]
  | 0, k => rfl
  | n + 1, k => by
    rw [rws, rws_snoc σ n (k + 1), rws, show k + 1 + n = k + (n + 1) by omega]
    rfl
theorem rws_st (σ : Sto) (j : Nat) (r : Rw) : ∀ n k, k + n ≤ j → rws (stM σ j r) k n = rws σ k n
  | 0, _, _ => rfl
  | n + 1, k, h => by
    rw [rws, rws, rws_st σ j r n (k + 1) (by omega), rwM_stM, if_neg (by omega)]
theorem M_drop_loop {d : Nat} {σ : Sto} {Q : Po} {S : Nat} {t : Int32} {gn gf : Nat → Nat} (hM : MB σ S) (hR : ∀ k, k < S → okR (rwM σ k)) : ∀ (n k j : Nat) (σ1 : Sto) (u5 : AV), k + n = S → j ≤ k → scD σ σ1 → (∀ i, k ≤ i → rwM σ1 i = rwM σ i) → rws σ1 0 j = (rws σ 0 k).filter (fun r => ! isT t r) → Gn σ1 (gnL gn ((rws σ 0 k).filter (isT t))) → Gf σ1 (gfL gf ((rws σ 0 k).filter (isT t))) → (∀ (σ2 : Sto) (j' : Nat) (u5 : AV), j' ≤ S → scD σ σ2 → rws σ2 0 j' = (rws σ 0 S).filter (fun r => ! isT t r) → Gn σ2 (gnL gn ((rws σ 0 S).filter (isT t))) → Gf σ2 (gfL gf ((rws σ 0 S).filter (isT t))) → Ev (d + 1, 0, 0) 156 179 [aR (some 68), aI t, aI (nI j'), aI (nI S), aI (nI S), u5] [] σ2 Q) → Ev (d + 1, 0, 0) 156 20 [aR (some 68), aI t, aI (nI j), aI (nI S), aI (nI k), u5] [] σ1 Q := by
  intro n
  induction n with
  | zero =>
    intro k j σ1 u5 hk hj hs hrow hfil hgn hgf h
    have hk' : k = S := by omega
    subst hk'
    have hle : nI k ≤ nI k := Int32.le_refl _
    rw [v_156_20]
    simp only [z10, z00, not_true_eq_false, not_false_eq_true, false_implies, true_implies, implies_true, nI_1, Int32.add_zero, true_or, or_true, true_and, and_true, eI_eq, eL_eq, eR_eq, eV_eq, lg_cmp_ge, lg_cmp_le, lg_cmp_gt, lg_cmp_lt, lg_cmp_eq, v_156_22, v_156_23, v_156_26, v_156_27, v_156_30, v_156_32, v_156_33, v_156_34, v_156_37, v_156_39, v_156_40, v_156_43, v_156_45, v_156_46, v_156_47, v_156_48, v_156_51, v_156_53, v_156_54, v_156_55, v_156_57, v_156_58, v_156_61, v_156_63, v_156_65, v_156_66, v_156_67, v_156_69, v_156_72, v_156_73, v_156_74, v_156_75, v_156_76, v_156_77, v_156_78, v_156_79, v_156_82, v_156_84, v_156_85, v_156_86, v_156_87, v_156_90, v_156_92, v_156_93, v_156_94, v_156_95, v_156_98, v_156_99, v_156_100, v_156_101, v_156_104, v_156_106, v_156_107, v_156_108, v_156_111, v_156_113, v_156_114, v_156_115, v_156_118, v_156_120, v_156_121, v_156_122, v_156_125, v_156_127, v_156_128, v_156_129, v_156_132, v_156_134, v_156_135, v_156_136, v_156_139, v_156_141, v_156_142, v_156_144, v_156_145, v_156_148, v_156_150, v_156_151, v_156_152, v_156_153, v_156_154, v_156_157, v_156_159, v_156_160, v_156_161, v_156_164, v_156_166, v_156_167, v_156_170, v_156_173, v_156_176, hle]
    exact h σ1 j u5 hj hs hfil hgn hgf
  | succ n ih =>
    intro k j σ1 u5 hk hj hs hrow hfil hgn hgf h
    have hS := hM.c
    have hle : ¬ nI S ≤ nI k := nI_ge (by omega) (by omega)
    have hc : (nI k).toNatClampNeg = k := nI_clamp (by omega)
    have hM1 := hs.mb hM
    have er := hrow k (Nat.le_refl k)
    have hRk : okR (rwM σ1 k) := by rw [er]; exact hR k (by omega)
    have esn : rws σ 0 (k + 1) = rws σ 0 k ++ [rwM σ k] := by rw [rws_snoc, Nat.zero_add]
    rw [v_156_20]
    simp only [z10, z00, not_true_eq_false, not_false_eq_true, false_implies, true_implies, implies_true, nI_1, Int32.add_zero, true_or, or_true, true_and, and_true, eI_eq, eL_eq, eR_eq, eV_eq, lg_cmp_ge, lg_cmp_le, lg_cmp_gt, lg_cmp_lt, lg_cmp_eq, v_156_22, v_156_23, v_156_26, v_156_27, v_156_30, v_156_32, v_156_33, v_156_34, v_156_37, v_156_39, v_156_40, v_156_43, v_156_45, v_156_46, v_156_47, v_156_48, v_156_51, v_156_53, v_156_54, v_156_55, v_156_57, v_156_58, v_156_61, v_156_63, v_156_65, v_156_66, v_156_67, v_156_69, v_156_72, v_156_73, v_156_74, v_156_75, v_156_76, v_156_77, v_156_78, v_156_79, v_156_82, v_156_84, v_156_85, v_156_86, v_156_87, v_156_90, v_156_92, v_156_93, v_156_94, v_156_95, v_156_98, v_156_99, v_156_100, v_156_101, v_156_104, v_156_106, v_156_107, v_156_108, v_156_111, v_156_113, v_156_114, v_156_115, v_156_118, v_156_120, v_156_121, v_156_122, v_156_125, v_156_127, v_156_128, v_156_129, v_156_132, v_156_134, v_156_135, v_156_136, v_156_139, v_156_141, v_156_142, v_156_144, v_156_145, v_156_148, v_156_150, v_156_151, v_156_152, v_156_153, v_156_154, v_156_157, v_156_159, v_156_160, v_156_161, v_156_164, v_156_166, v_156_167, v_156_170, v_156_173, v_156_176, hle, hM1.o, hM1.r1, hM1.x69 (k := k) (by omega), hc]
    refine ⟨fun g => ?_, fun g => ?_⟩
    · have eT : isT t (rwM σ k) = false := by rw [← er]; simp [isT, rT_M, g]
      obtain ⟨-, -, -, -, -, ⟨kv, hkv, ek⟩, ⟨f, hf, ef⟩, -⟩ := hRk
      have ek' : gi σ1 74 k = nI kv := ek
      have ef' : gi σ1 75 k = nI f := ef
      have ex : nI kv + 8 * nI f = nI (kv + 8 * f) := by rw [show (8 : Int32) = nI 8 from rfl, pk_mul, nI_add]
      simp only [hM1.o, hM1.r1, hM1.r2, hM1.r3, hM1.r4, hM1.r5, hM1.r6, hM1.r7, hM1.r8, hM1.r9, hM1.x69 (k := k) (by omega), hM1.x70 (k := k) (by omega), hM1.x71 (k := k) (by omega), hM1.x72 (k := k) (by omega), hM1.x73 (k := k) (by omega), hM1.x74 (k := k) (by omega), hM1.x75 (k := k) (by omega), hM1.a76 (k := k) (by omega), hM1.a77 (k := k) (by omega), z10, z00, not_true_eq_false, not_false_eq_true, false_implies, true_implies, implies_true, nI_1, Int32.add_zero, true_or, or_true, true_and, and_true, eI_eq, eL_eq, eR_eq, eV_eq, lg_cmp_ge, lg_cmp_le, lg_cmp_gt, lg_cmp_lt, lg_cmp_eq, v_156_98, v_156_99, v_156_100, v_156_101, v_156_104, v_156_106, v_156_107, v_156_108, v_156_111, v_156_113, v_156_114, v_156_115, v_156_118, v_156_120, v_156_121, v_156_122, v_156_125, v_156_127, v_156_128, v_156_129, v_156_132, v_156_134, v_156_135, v_156_136, v_156_139, v_156_141, v_156_142, v_156_144, v_156_145, v_156_148, v_156_150, v_156_151, v_156_152, v_156_153, v_156_154, v_156_157, v_156_159, v_156_160, v_156_161, v_156_164, v_156_166, v_156_167, v_156_170, v_156_173, v_156_176, hc, ek', ef', ex]
      refine M_set hM1 (by omega) ?_
      have ed : nI (kv + 8 * f) / 8 = nI f := by
        have := pk_div (a := kv + 8 * f) (d := 8) (by omega) (by omega) (by omega)
        rw [show (kv + 8 * f) / 8 = f by omega] at this
        exact this
      have em : nI (kv + 8 * f) - nI f * 8 = nI kv := by
        have := pk_rem (a := kv + 8 * f) (d := 8) (by omega) (by omega) (by omega)
        rw [show (kv + 8 * f) % 8 = kv by omega] at this
        rw [← ed]
        exact this
      rw [ed, em, ← ek', ← ef']
      show Ev _ _ _ _ _ (stM σ1 j (rwM σ1 k)) _
      refine ih (k + 1) (j + 1) _ _ (by omega) (by omega) (hs.trans (scD.st _ _ _)) ?_ ?_ ?_ ?_ h
      · intro i hi
        rw [rwM_stM, if_neg (by omega)]
        exact hrow i (by omega)
      · rw [rws_snoc, rws_st _ _ _ _ _ (by omega), hfil, Nat.zero_add, rwM_stM, if_pos rfl, esn, List.filter_append, er]
        simp [eT]
      · intro i hi
        have e0 : gi (stM σ1 j (rwM σ1 k)) 101 = gi σ1 101 := rfl
        rw [e0, hgn i hi, esn, List.filter_append]
        simp [eT]
      · intro i hi
        have e0 : gi (stM σ1 j (rwM σ1 k)) 102 = gi σ1 102 := rfl
        rw [e0, hgf i hi, esn, List.filter_append]
        simp [eT]
    · have eT : isT t (rwM σ k) = true := by rw [← er]; simp [isT, rT_M, g]
      have hRk2 := hRk
      obtain ⟨-, -, -, ⟨v, hv, ev⟩, ⟨c, hc8, ec⟩, -, ⟨f, hf, ef⟩, -⟩ := hRk2
      have ev' : gi σ1 72 k = nI v := ev
      have ec' : gi σ1 73 k = nI c := ec
      have ef' : gi σ1 75 k = nI f := ef
      have hst := stp_le (rwM σ k)
      have hi : 8 * v + c < 48 := by omega
      have hi2 : 32 * (8 * v + c) + stp (rwM σ k) < 1536 := by omega
      have hci : (nI (8 * v + c)).toNatClampNeg = 8 * v + c := nI_clamp (by omega)
      have hci2 : (nI (32 * (8 * v + c) + stp (rwM σ k))).toNatClampNeg = 32 * (8 * v + c) + stp (rwM σ k) := nI_clamp (by omega)
      have eg : gfI (rwM σ k) = 8 * v + c := by
        unfold gfI
        rw [← er, ev, ec, nI_clamp (by omega), nI_clamp (by omega)]
      have eg2 : gnI (rwM σ k) = 32 * (8 * v + c) + stp (rwM σ k) := by unfold gnI; rw [eg]
      have eF : rF (rwM σ k) = nI f := by rw [← er]; exact ef
      simp only [z10, z00, not_true_eq_false, not_false_eq_true, false_implies, true_implies, implies_true, nI_1, Int32.add_zero, true_or, or_true, true_and, and_true, eI_eq, eL_eq, eR_eq, eV_eq, lg_cmp_ge, lg_cmp_le, lg_cmp_gt, lg_cmp_lt, lg_cmp_eq, v_156_37, v_156_39, v_156_40, v_156_43, v_156_45, v_156_46, v_156_47, v_156_48, v_156_51, v_156_53, v_156_54, v_156_55, v_156_57, v_156_58, v_156_61, v_156_63, v_156_65, v_156_66, v_156_67, v_156_69, v_156_72, v_156_73, v_156_74, v_156_75, v_156_76, v_156_77, v_156_78, v_156_79, v_156_82, v_156_84, v_156_85, v_156_86, v_156_87, v_156_90, v_156_92, v_156_93, v_156_94, v_156_95, v_156_98, v_156_99, v_156_100, v_156_101, v_156_104, v_156_106, v_156_107, v_156_108, v_156_111, v_156_113, v_156_114, v_156_115, v_156_118, v_156_120, v_156_121, v_156_122, v_156_125, v_156_127, v_156_128, v_156_129, v_156_132, v_156_134, v_156_135, v_156_136, v_156_139, v_156_141, v_156_142, v_156_144, v_156_145, v_156_148, v_156_150, v_156_151, v_156_152, v_156_153, v_156_154, v_156_157, v_156_159, v_156_160, v_156_161, v_156_164, v_156_166, v_156_167, v_156_170, v_156_173, v_156_176, hM1.o, hM1.r4, hM1.r5, hM1.r43, hM1.x72 (k := k) (by omega), hM1.x73 (k := k) (by omega), hc, ev', ec', ixP]
      refine M_stepOf hM1 (by omega) hRk ?_
      have g1 : gi σ1 101 (32 * (8 * v + c) + stp (rwM σ k)) = _ := hgn _ hi2
      have g2 : gi σ1 102 (8 * v + c) = _ := hgf _ hi
      simp only [er, ixS, hM1.x101 (k := _) hi2, hM1.a101 (k := _) hi2, hM1.x102 (k := _) hi, hM1.a102 (k := _) hi, hM1.x75 (k := k) (by omega), hc, hci, hci2, hM1.o, hM1.r44, hM1.r7, okO_si, okA_si, okX_si, gr_si_r, gi_si_r, if_neg (show ¬ 102 = 101 by decide), if_neg (show ¬ 75 = 101 by decide), ef', g1, g2, nI_1, nI_add, z10, z00, not_true_eq_false, not_false_eq_true, false_implies, true_implies, implies_true, true_and, and_true, true_or, or_true, false_and, and_false, false_or, or_false, z10, z00, not_true_eq_false, not_false_eq_true, false_implies, true_implies, implies_true, nI_1, Int32.add_zero, true_or, or_true, true_and, and_true, eI_eq, eL_eq, eR_eq, eV_eq, lg_cmp_ge, lg_cmp_le, lg_cmp_gt, lg_cmp_lt, lg_cmp_eq, v_156_72, v_156_73, v_156_74, v_156_75, v_156_76, v_156_77, v_156_78, v_156_79, v_156_82, v_156_84, v_156_85, v_156_86, v_156_87, v_156_90, v_156_92, v_156_93, v_156_94, v_156_95, v_156_98, v_156_99, v_156_100, v_156_101, v_156_104, v_156_106, v_156_107, v_156_108, v_156_111, v_156_113, v_156_114, v_156_115, v_156_118, v_156_120, v_156_121, v_156_122, v_156_125, v_156_127, v_156_128, v_156_129, v_156_132, v_156_134, v_156_135, v_156_136, v_156_139, v_156_141, v_156_142, v_156_144, v_156_145, v_156_148, v_156_150, v_156_151, v_156_152, v_156_153, v_156_154, v_156_157, v_156_159, v_156_160, v_156_161, v_156_164, v_156_166, v_156_167, v_156_170, v_156_173, v_156_176]
      refine ih (k + 1) j _ _ (by omega) (by omega) (hs.trans ⟨rfl, rfl, fun a h1 h2 h3 => ?_, fun _ _ _ => rfl⟩) ?_ ?_ ?_ ?_ h
      · rw [gi_si_r, if_neg h3, gi_si_r, if_neg h2]
      · intro i hi
        exact hrow i (by omega)
      · have e0 : ∀ (m : Nat) (a b : Nat) (x y : Int32), a = 101 ∨ a = 102 → b = 101 ∨ b = 102 → ∀ q, rws (si (si σ1 a m x) b q y) 0 j = rws σ1 0 j := by
          intro m a b x y ha hb q
          have : ∀ n k, rws (si (si σ1 a m x) b q y) k n = rws σ1 k n := by
            intro n
            induction n with
            | zero => intro k; rfl
            | succ n ih2 =>
              intro k
              rw [rws, rws, ih2]
              have : rwM (si (si σ1 a m x) b q y) k = rwM σ1 k := by
                unfold rwM
                simp only [gi_si_r, gl_si_r]
                rcases ha with rfl | rfl <;> rcases hb with rfl | rfl <;> rfl
              rw [this]
          exact this j 0
        rw [e0 _ _ _ _ _ (Or.inl rfl) (Or.inr rfl), hfil, esn, List.filter_append]
        simp [eT]
      · intro i hi'
        rw [gi_si_r, if_neg (by decide), gi_si_r, if_pos rfl, up1]
        have e1 : (rws σ 0 (k + 1)).filter (isT t) = (rws σ 0 k).filter (isT t) ++ [rwM σ k] := by
          rw [esn, List.filter_append]; simp [eT]
        rw [e1]
        by_cases hh : i = 32 * (8 * v + c) + stp (rwM σ k)
        · subst hh
          simp only [gnL, List.countP_append, if_true]
          simp [eg2, Nat.add_assoc]
        · rw [if_neg hh, hgn i hi']
          simp only [gnL, List.countP_append]
          have hq : ¬ gnI (rwM σ k) = i := fun q => hh (by rw [← q, eg2])
          simp [hq]
      · intro i hi'
        have e9 : ∀ (m : Nat) (x : Int32), gi (si σ1 101 m x) 102 = gi σ1 102 := fun m x => by rw [gi_si_r]; rfl
        rw [gi_si_r, if_pos rfl, e9, up1]
        have e1 : (rws σ 0 (k + 1)).filter (isT t) = (rws σ 0 k).filter (isT t) ++ [rwM σ k] := by
          rw [esn, List.filter_append]; simp [eT]
        rw [e1]
        have e2 : (nI f = 1) ↔ f = 1 := nI_eq (b := 1) (by omega) (by omega)
        by_cases hh : i = 8 * v + c
        · subst hh
          simp only [gfL, List.countP_append, if_true, List.countP_cons, List.countP_nil, eg, eF, e2, true_and]
          have hf2 : f = 0 ∨ f = 1 := by omega
          rcases hf2 with e | e <;> subst e <;> simp [Nat.add_assoc]
        · rw [if_neg hh, hgf i hi']
          simp only [gfL, List.countP_append]
          have hq : ¬ gfI (rwM σ k) = i := fun q => hh (by rw [← q, eg])
          simp [hq]
theorem filt_len {α : Type} (p : α → Bool) (l : List α) : (l.filter p).length + (l.filter (fun r => ! p r)).length = l.length := by
  induction l with
  | nil => rfl
  | cons a l ih =>
    cases h : p a <;> simp [h] <;> omega
theorem M_drop {d : Nat} {σ : Sto} {K : Int32 → Sto → Prop} {S : Nat} {t : Int32} {gn gf : Nat → Nat} (hM : MB σ S) (hR : ∀ k, k < S → okR (rwM σ k)) (hG : Gn σ gn) (hF : Gf σ gf) (h0 : (t < 0 ∨ 20 ≤ t) → K (-1) σ) (h : ¬ t < 0 → ¬ 20 ≤ t → ∀ (σ1 : Sto) (j : Nat), j + ((rws σ 0 S).filter (isT t)).length = S → scD σ σ1 → rws σ1 0 j = (rws σ 0 S).filter (fun r => ! isT t r) → Gn σ1 (gnL gn ((rws σ 0 S).filter (isT t))) → Gf σ1 (gfL gf ((rws σ 0 S).filter (isT t))) → K (nI ((rws σ 0 S).filter (isT t)).length) (si (si σ1 68 0 (nI j)) 68 15 (gi σ 68 15 + nI ((rws σ 0 S).filter (isT t)).length))) : CI (d + 1) 156 [aR (some 68), aI t] σ K := by
  refine CI_of ?_
  show Ev (d + 1, 0, 0) 156 0 [aR (some 68), aI t, aU, aU, aU, aU] [] σ _
  simp only [z10, z00, not_true_eq_false, not_false_eq_true, false_implies, true_implies, implies_true, nI_1, Int32.add_zero, true_or, or_true, true_and, and_true, eI_eq, eL_eq, eR_eq, eV_eq, lg_cmp_ge, lg_cmp_le, lg_cmp_gt, lg_cmp_lt, lg_cmp_eq, v_156_0, v_156_1, v_156_2, v_156_5, v_156_8, v_156_9, v_156_10, v_156_11, v_156_12, v_156_13, v_156_16, v_156_17, v_156_18, hM.o]
  refine M_isTrace (fun c => ?_) (fun c1 c2 => ?_)
  · simp only [z10, z00, not_true_eq_false, not_false_eq_true, false_implies, true_implies, implies_true, true_and, and_true, true_or, or_true, false_and, and_false, false_or, or_false]
    exact h0 c
  · simp only [z10, z00, not_true_eq_false, not_false_eq_true, false_implies, true_implies, implies_true, true_and, and_true, true_or, or_true, false_and, and_false, false_or, or_false, hM.o, hM.n]
    have := M_drop_loop (d := d) (σ := σ) (Q := eI K) (t := t) (gn := gn) (gf := gf) hM hR S 0 0 σ aU (by omega) (by omega) (scD.rfl σ) (fun _ _ => rfl) rfl (fun i hi => by rw [hG i hi]; rfl) (fun i hi => by rw [hF i hi]; rfl) (fun σ2 j u5 hj hs hfil hgn hgf => by
      have hM2 := hs.mb hM
      have hl : j + ((rws σ 0 S).filter (isT t)).length = S := by
        have e1 := congrArg List.length hfil
        rw [rws_len] at e1
        have e2 := filt_len (isT t) (rws σ 0 S)
        rw [rws_len] at e2
        omega
      have es : nI S - nI j = nI ((rws σ 0 S).filter (isT t)).length := by
        rw [pk_sub hj]
        congr 1
        omega
      simp only [z10, z00, not_true_eq_false, not_false_eq_true, false_implies, true_implies, implies_true, nI_1, Int32.add_zero, true_or, or_true, true_and, and_true, eI_eq, eL_eq, eR_eq, eV_eq, lg_cmp_ge, lg_cmp_le, lg_cmp_gt, lg_cmp_lt, lg_cmp_eq, v_156_179, v_156_180, v_156_181, v_156_184, v_156_185, v_156_186, v_156_189, v_156_190, v_156_191, v_156_192, v_156_193, v_156_196, v_156_197, v_156_198, v_156_199, hM2.o, okO_si, es]
      have e15 : gi (si σ2 68 0 (nI j)) 68 15 = gi σ 68 15 := by
        rw [gi_si_r, if_pos rfl, up1, if_neg (by decide), hs.2.2.1 68 (by omega) (by omega) (by omega)]
      rw [e15]
      exact h c1 c2 σ2 j hl hs hfil hgn hgf)
    simpa only [nI_0] using this
