/-! the class: report -/
def cI (x y : Int32) : Int32 := if x < y then -1 else if x = y then 0 else 1
def cL (x y : Int64) : Int32 := if x < y then -1 else if x = y then 0 else 1
theorem X_cmpI {d : Nat} {σ : Sto} {x y : Int32} {K : Int32 → Sto → Prop} (h : K (cI x y) σ) : CI d 163 [aI x, aI y] σ K := by
  refine CI_of ?_
  show Ev (d, 0, 0) 163 0 [aI x, aI y] [] σ _
  simp only [z10, z00, not_true_eq_false, not_false_eq_true, false_implies, true_implies, implies_true, nI_1, Int32.add_zero, true_or, or_true, true_and, and_true, eI_eq, eL_eq, eR_eq, eV_eq, lg_cmp_ge, lg_cmp_le, lg_cmp_gt, lg_cmp_lt, lg_cmp_eq, v_163_0, v_163_1, v_163_2, v_163_5, v_163_6, v_163_9, v_163_10, v_163_11, v_163_14, v_163_15, v_163_18, v_163_19]
  unfold cI at h
  refine ⟨fun g => ⟨fun g2 => ?_, fun g2 => ?_⟩, fun g => ?_⟩
  · simpa [Int32.not_lt.mpr g, g2] using h
  · simpa [g2] using h
  · rw [if_pos (Int32.not_le.mp g)] at h; exact h
theorem X_cmpL {d : Nat} {σ : Sto} {x y : Int64} {K : Int32 → Sto → Prop} (h : K (cL x y) σ) : CI d 164 [aL x, aL y] σ K := by
  refine CI_of ?_
  show Ev (d, 0, 0) 164 0 [aL x, aU, aL y, aU] [] σ _
  simp only [z10, z00, not_true_eq_false, not_false_eq_true, false_implies, true_implies, implies_true, nI_1, Int32.add_zero, true_or, or_true, true_and, and_true, eI_eq, eL_eq, eR_eq, eV_eq, lg_cmp_ge, lg_cmp_le, lg_cmp_gt, lg_cmp_lt, lg_cmp_eq, v_164_0, v_164_1, v_164_2, v_164_3, v_164_6, v_164_7, v_164_10, v_164_11, v_164_12, v_164_13, v_164_16, v_164_17, v_164_20, v_164_21]
  unfold cL at h
  refine ⟨fun g => ⟨fun g2 => ?_, fun g2 => ?_⟩, fun g => ?_⟩
  · simpa [Int64.not_lt.mpr g, g2] using h
  · simpa [g2] using h
  · rw [if_pos (Int64.not_le.mp g)] at h; exact h
def orI (a b : Int32) : Int32 := if a = 0 then b else a
theorem orI_z (b : Int32) : orI 0 b = b := if_pos rfl
theorem orI_n {a b : Int32} (h : ¬ a = 0) : orI a b = a := if_neg h
def cmR (r q : Rw) : Int32 := orI (orI (orI (orI (orI (orI (cI (rP r) (rP q)) (cI (rV r) (rV q))) (cI (rC r) (rC q))) (cI (rK r) (rK q))) (cI (rF r) (rF q))) (cL (rB r) (rB q))) (cL (rE r) (rE q))
theorem X_comparedWith {d : Nat} {σ : Sto} {a b : Nat} {t u : Int32} {K : Int32 → Sto → Prop} (ha : okO σ a 1) (hb : okO σ b 1) (h : K (cmR (rwX σ t a) (rwX σ u b)) σ) : CI (d + 1) 16 [aR (some a), aR (some b)] σ K := by
  have t6 : ∀ c, K (orI c (cL (gl σ a 7) (gl σ b 7))) σ → Ev (d + 1, 0, 0) 16 112 [aR (some a), aR (some b), aI c] [] σ (eI K) := fun c hc => by
    simp only [z10, z00, not_true_eq_false, not_false_eq_true, false_implies, true_implies, implies_true, nI_1, Int32.add_zero, true_or, or_true, true_and, and_true, eI_eq, eL_eq, eR_eq, eV_eq, lg_cmp_ge, lg_cmp_le, lg_cmp_gt, lg_cmp_lt, lg_cmp_eq, v_16_112, v_16_113, v_16_116, v_16_117, v_16_120, v_16_121, v_16_124, v_16_125, v_16_128, v_16_131, ha, hb]
    unfold orI at hc
    exact ⟨fun g => X_cmpL (by simpa [g] using hc), fun g => by simpa [g] using hc⟩
  have t5 : ∀ c, K (orI (orI c (cL (gl σ a 6) (gl σ b 6))) (cL (gl σ a 7) (gl σ b 7))) σ → Ev (d + 1, 0, 0) 16 92 [aR (some a), aR (some b), aI c] [] σ (eI K) := fun c hc => by
    simp only [z10, z00, not_true_eq_false, not_false_eq_true, false_implies, true_implies, implies_true, nI_1, Int32.add_zero, true_or, or_true, true_and, and_true, eI_eq, eL_eq, eR_eq, eV_eq, lg_cmp_ge, lg_cmp_le, lg_cmp_gt, lg_cmp_lt, lg_cmp_eq, v_16_92, v_16_93, v_16_96, v_16_97, v_16_100, v_16_101, v_16_104, v_16_105, v_16_108, v_16_111, ha, hb]
    exact ⟨fun g => X_cmpL (t6 _ (by rw [g, orI_z] at hc; exact hc)), fun g => t6 _ (by rw [orI_n g] at hc; exact hc)⟩
  have t4 : ∀ c, K (orI (orI (orI c (cI (gi σ a 5) (gi σ b 5))) (cL (gl σ a 6) (gl σ b 6))) (cL (gl σ a 7) (gl σ b 7))) σ → Ev (d + 1, 0, 0) 16 72 [aR (some a), aR (some b), aI c] [] σ (eI K) := fun c hc => by
    simp only [z10, z00, not_true_eq_false, not_false_eq_true, false_implies, true_implies, implies_true, nI_1, Int32.add_zero, true_or, or_true, true_and, and_true, eI_eq, eL_eq, eR_eq, eV_eq, lg_cmp_ge, lg_cmp_le, lg_cmp_gt, lg_cmp_lt, lg_cmp_eq, v_16_72, v_16_73, v_16_76, v_16_77, v_16_80, v_16_81, v_16_84, v_16_85, v_16_88, v_16_91, ha, hb]
    exact ⟨fun g => X_cmpI (t5 _ (by rw [g, orI_z] at hc; exact hc)), fun g => t5 _ (by rw [orI_n g] at hc; exact hc)⟩
  have t3 : ∀ c, K (orI (orI (orI (orI c (cI (gi σ a 4) (gi σ b 4))) (cI (gi σ a 5) (gi σ b 5))) (cL (gl σ a 6) (gl σ b 6))) (cL (gl σ a 7) (gl σ b 7))) σ → Ev (d + 1, 0, 0) 16 52 [aR (some a), aR (some b), aI c] [] σ (eI K) := fun c hc => by
    simp only [z10, z00, not_true_eq_false, not_false_eq_true, false_implies, true_implies, implies_true, nI_1, Int32.add_zero, true_or, or_true, true_and, and_true, eI_eq, eL_eq, eR_eq, eV_eq, lg_cmp_ge, lg_cmp_le, lg_cmp_gt, lg_cmp_lt, lg_cmp_eq, v_16_52, v_16_53, v_16_56, v_16_57, v_16_60, v_16_61, v_16_64, v_16_65, v_16_68, v_16_71, ha, hb]
    exact ⟨fun g => X_cmpI (t4 _ (by rw [g, orI_z] at hc; exact hc)), fun g => t4 _ (by rw [orI_n g] at hc; exact hc)⟩
  have t2 : ∀ c, K (orI (orI (orI (orI (orI c (cI (gi σ a 3) (gi σ b 3))) (cI (gi σ a 4) (gi σ b 4))) (cI (gi σ a 5) (gi σ b 5))) (cL (gl σ a 6) (gl σ b 6))) (cL (gl σ a 7) (gl σ b 7))) σ → Ev (d + 1, 0, 0) 16 32 [aR (some a), aR (some b), aI c] [] σ (eI K) := fun c hc => by
    simp only [z10, z00, not_true_eq_false, not_false_eq_true, false_implies, true_implies, implies_true, nI_1, Int32.add_zero, true_or, or_true, true_and, and_true, eI_eq, eL_eq, eR_eq, eV_eq, lg_cmp_ge, lg_cmp_le, lg_cmp_gt, lg_cmp_lt, lg_cmp_eq, v_16_32, v_16_33, v_16_36, v_16_37, v_16_40, v_16_41, v_16_44, v_16_45, v_16_48, v_16_51, ha, hb]
    exact ⟨fun g => X_cmpI (t3 _ (by rw [g, orI_z] at hc; exact hc)), fun g => t3 _ (by rw [orI_n g] at hc; exact hc)⟩
  have t1 : ∀ c, K (orI (orI (orI (orI (orI (orI c (cI (gi σ a 2) (gi σ b 2))) (cI (gi σ a 3) (gi σ b 3))) (cI (gi σ a 4) (gi σ b 4))) (cI (gi σ a 5) (gi σ b 5))) (cL (gl σ a 6) (gl σ b 6))) (cL (gl σ a 7) (gl σ b 7))) σ → Ev (d + 1, 0, 0) 16 12 [aR (some a), aR (some b), aI c] [] σ (eI K) := fun c hc => by
    simp only [z10, z00, not_true_eq_false, not_false_eq_true, false_implies, true_implies, implies_true, nI_1, Int32.add_zero, true_or, or_true, true_and, and_true, eI_eq, eL_eq, eR_eq, eV_eq, lg_cmp_ge, lg_cmp_le, lg_cmp_gt, lg_cmp_lt, lg_cmp_eq, v_16_12, v_16_13, v_16_16, v_16_17, v_16_20, v_16_21, v_16_24, v_16_25, v_16_28, v_16_31, ha, hb]
    exact ⟨fun g => X_cmpI (t2 _ (by rw [g, orI_z] at hc; exact hc)), fun g => t2 _ (by rw [orI_n g] at hc; exact hc)⟩
  refine CI_of ?_
  show Ev (d + 1, 0, 0) 16 0 [aR (some a), aR (some b), aU] [] σ _
  simp only [z10, z00, not_true_eq_false, not_false_eq_true, false_implies, true_implies, implies_true, nI_1, Int32.add_zero, true_or, or_true, true_and, and_true, eI_eq, eL_eq, eR_eq, eV_eq, lg_cmp_ge, lg_cmp_le, lg_cmp_gt, lg_cmp_lt, lg_cmp_eq, v_16_0, v_16_1, v_16_4, v_16_5, v_16_8, v_16_11, ha, hb]
  exact X_cmpI (t1 _ h)
def spI (σ : Sto) (a : Nat) (r : Rw) : Sto := sl (sl (si (si (si (si (si (si σ a 0 (rN r)) a 1 (rP r)) a 2 (rV r)) a 3 (rC r)) a 4 (rK r)) a 5 (rF r)) a 6 (rB r)) a 7 (rE r)
theorem X_spanInit {d : Nat} {σ : Sto} {a : Nat} {t n p v c x : Int32} {b e : Int64} {K : Sto → Prop} (ha : okO σ a 1) (h : K (spI σ a (t, n, p, v, c, x - x / 8 * 8, x / 8, b, e))) : CV (d + 1) 15 [aR (some a), aI n, aI p, aI v, aI c, aI x, aL b, aL e] σ K := by
  refine CV_of ?_
  show Ev (d + 1, 0, 0) 15 0 [aR (some a), aI n, aI p, aI v, aI c, aI x, aL b, aU, aL e, aU] [] σ _
  have c8 : ((8 : Int32) = 0) = False := eq_false (by decide)
  simp only [z10, z00, not_true_eq_false, not_false_eq_true, false_implies, true_implies, implies_true, nI_1, Int32.add_zero, true_or, or_true, true_and, and_true, eI_eq, eL_eq, eR_eq, eV_eq, lg_cmp_ge, lg_cmp_le, lg_cmp_gt, lg_cmp_lt, lg_cmp_eq, v_15_0, v_15_1, v_15_4, v_15_5, v_15_6, v_15_9, v_15_10, v_15_11, v_15_14, v_15_15, v_15_16, v_15_19, v_15_20, v_15_22, v_15_25, v_15_26, v_15_28, v_15_30, v_15_31, v_15_34, v_15_35, v_15_37, v_15_39, v_15_40, v_15_43, v_15_44, v_15_46, v_15_49, v_15_50, v_15_52, v_15_55, okO_si, okO_sl, ha, c8]
  exact h
theorem rwX_spI (σ : Sto) (a : Nat) (r : Rw) (b : Nat) : rwX (spI σ a r) (rT r) b = if b = a then r else rwX σ (rT r) b := by
  by_cases h : b = a
  · subst h
    rw [if_pos rfl]
    unfold rwX spI
    simp only [gi_sl_r, gl_sl_k, gi_si_k, gl_si_r]
    simp [rT, rN, rP, rV, rC, rK, rF, rB, rE]
  · rw [if_neg h]
    unfold rwX spI
    simp only [gi_sl_r, gl_sl_k, gi_si_k, gl_si_r, h, false_and, if_false]
/-- a new cell for a span -/
def nwX (σ : Sto) (r : Rw) : Sto := spI (alo σ) (sn σ) r
theorem nwX_sn (σ : Sto) (r : Rw) : sn (nwX σ r) = sn σ + 1 := rfl
theorem nwX_gi {σ : Sto} {r : Rw} {a : Nat} (h : a ≠ sn σ) : gi (nwX σ r) a = gi σ a := by
  funext k
  unfold nwX spI
  simp only [gi_sl_r, gi_si_k, h, false_and, if_false]
  exact congrFun (if_neg (show ¬ a = σ.1 from h)) k
theorem nwX_gl {σ : Sto} {r : Rw} {a : Nat} (h : a ≠ sn σ) : gl (nwX σ r) a = gl σ a := by
  funext k
  unfold nwX spI
  simp only [gl_sl_k, gl_si_r, h, false_and, if_false]
  exact congrFun (if_neg (show ¬ a = σ.1 from h)) k
theorem nwX_gr {σ : Sto} {r : Rw} {a : Nat} (h : a ≠ sn σ) : gr (nwX σ r) a = gr σ a := by
  exact if_neg (show ¬ a = σ.1 from h)
theorem nwX_xb {σ : Sto} {r : Rw} (hX : XB σ) : XB (nwX σ r) := XB_of (σ := σ) (Nat.le_succ _) (fun a k ha _ => by rw [nwX_gr (by have := hX.1; omega)]) hX
theorem nwX_lk {σ : Sto} {r : Rw} {l : List Nat} {q : Option Nat} (h : lkt σ l q) : lkt (nwX σ r) l q := lkt_of (σ := σ) (Nat.le_succ _) (fun a ha => by rw [nwX_gr (by have := (lkt_mem h a ha).2; omega)]) h
theorem nwX_rw {σ : Sto} {r : Rw} : rwX (nwX σ r) (rT r) (sn σ) = r := by
  unfold nwX
  rw [rwX_spI, if_pos rfl]
theorem scI_xb {t : Nat} {l : List Nat} {σ σ' : Sto} (hl : ∀ a, a ∈ l → 103 ≤ a) (h : scI (28 + 2 * t) l σ σ') (hX : XB σ) : XB σ' := XB_of (Nat.le_of_eq h.1.symm) (fun a k ha hk => h.2.2.2 a k (fun q => by omega) (fun q => by have := hl a q.1; omega)) hX
theorem scI_rw {t : Nat} {l : List Nat} {σ σ' : Sto} (ht : t < 20) (h : scI (28 + 2 * t) l σ σ') {u : Int32} {a : Nat} (ha : 103 ≤ a) : rwX σ' u a = rwX σ u a := by
  unfold rwX
  rw [h.2.1, h.2.2.1 a 0 (by omega), h.2.2.1 a 1 (by omega), h.2.2.1 a 2 (by omega), h.2.2.1 a 3 (by omega), h.2.2.1 a 4 (by omega), h.2.2.1 a 5 (by omega)]
theorem tlA_xb {σ : Sto} {r : Rw} {n : Int32} (hX : XB σ) : XB (tlA σ r n) := XB_of (σ := σ) (Nat.le_refl _) (fun _ _ _ _ => rfl) hX
theorem tlA_gi {σ : Sto} {r : Rw} {n : Int32} {a : Nat} (h4 : a ≠ 4) (h5 : a ≠ 5) (h6 : a ≠ 6) : gi (tlA σ r n) a = gi σ a := by
  unfold tlA
  rw [gi_si_r, if_neg h6, gi_si_r, if_neg h5, gi_si_r, if_neg h4]
/-- a span more: what is written behind its place in the row -/
def tnX (σ' : Sto) (r : Rw) : Sto := si (si (tlA σ' r 1) 1 9 (gi σ' 1 9 + 1)) 7 6 0
theorem X_takeNew {d : Nat} {σ : Sto} {t n : Nat} {l : List Nat} {r : Rw} {K : Int32 → Sto → Prop} (hX : XB σ) (ht : t < 20) (hn1 : 103 ≤ n) (hn2 : n < sn σ) (hnl : n ∉ l) (hnd : l.Nodup) (hl : lkt σ l none) (hf : gr σ (28 + 2 * t) 0 = l.head?) (hr : rwX σ (rT r) n = r) (hR : okR r) (h : ∀ σ', scI (28 + 2 * t) (n :: l) σ σ' → gr σ' (28 + 2 * t) 0 = (insL σ n l).head? → lkt σ' (insL σ n l) none → gi σ' (28 + 2 * t) 1 = gi σ (28 + 2 * t) 1 + 1 → gi σ' (28 + 2 * t) 2 = 0 → K 1 (tnX σ' r)) : CI (d + 2) 96 [aR (some 1), aR (some (28 + 2 * t)), aR (some n)] σ K := by
  have hg : ∀ a, a ∈ n :: l → 103 ≤ a := fun a ha => by
    rcases List.mem_cons.mp ha with e | e
    · rw [e]; exact hn1
    · exact (lkt_mem hl a e).1
  refine CI_of ?_
  show Ev (d + 2, 0, 0) 96 0 [aR (some 1), aR (some (28 + 2 * t)), aR (some n)] [] σ _
  simp only [z10, z00, not_true_eq_false, not_false_eq_true, false_implies, true_implies, implies_true, nI_1, Int32.add_zero, true_or, or_true, true_and, and_true, eI_eq, eL_eq, eR_eq, eV_eq, lg_cmp_ge, lg_cmp_le, lg_cmp_gt, lg_cmp_lt, lg_cmp_eq, v_96_0, v_96_1, v_96_2, v_96_5, v_96_6, v_96_9, v_96_10, v_96_11, v_96_14, v_96_15, v_96_16, v_96_19, v_96_20, v_96_21, v_96_24, v_96_25, v_96_28, v_96_29, v_96_32, v_96_33, hX.o1, hX.o3, hX.o7, hX.o14, hX.o20, hX.r1_0, hX.r1_1, hX.r1_2, hX.r1_3, hX.r1_4, hX.r1_5, hX.r1_6, hX.r3_0, hX.r3_1, hX.r3_2, hX.r7_0, hX.r7_1, hX.r7_2, hX.r7_3, hX.r7_8, hX.r7_9, hX.r14_0, hX.r14_1, hX.r14_2, hX.r14_3, hX.r14_5, hX.r20_0, hX.r20_1, hX.r20_2, hX.r20_3, hX.r20_5, hX.oT ht]
  refine X_insert (hX.oT ht) (by omega) hn1 hn2 hnl hnd hl hf (fun σ' h1 h2 h3 h4 h5 => ?_)
  have hX1 := scI_xb hg h1 hX
  have er : rwX σ' (rT r) n = r := by rw [scI_rw ht h1 hn1]; exact hr
  simp only [z10, z00, not_true_eq_false, not_false_eq_true, false_implies, true_implies, implies_true, nI_1, Int32.add_zero, true_or, or_true, true_and, and_true, eI_eq, eL_eq, eR_eq, eV_eq, lg_cmp_ge, lg_cmp_le, lg_cmp_gt, lg_cmp_lt, lg_cmp_eq, v_96_0, v_96_1, v_96_2, v_96_5, v_96_6, v_96_9, v_96_10, v_96_11, v_96_14, v_96_15, v_96_16, v_96_19, v_96_20, v_96_21, v_96_24, v_96_25, v_96_28, v_96_29, v_96_32, v_96_33, hX1.o1, hX1.o3, hX1.o7, hX1.o14, hX1.o20, hX1.r1_0, hX1.r1_1, hX1.r1_2, hX1.r1_3, hX1.r1_4, hX1.r1_5, hX1.r1_6, hX1.r3_0, hX1.r3_1, hX1.r3_2, hX1.r7_0, hX1.r7_1, hX1.r7_2, hX1.r7_3, hX1.r7_8, hX1.r7_9, hX1.r14_0, hX1.r14_1, hX1.r14_2, hX1.r14_3, hX1.r14_5, hX1.r20_0, hX1.r20_1, hX1.r20_2, hX1.r20_3, hX1.r20_5, z10, z00, not_true_eq_false, not_false_eq_true, false_implies, true_implies, implies_true, true_and, and_true, true_or, or_true, false_and, and_false, false_or, or_false]
  refine X_addT (t := rT r) hX1 (okS_of hn1 (by rw [h1.1]; exact hn2)) hn1 (by rw [er]; exact hR) ?_
  rw [er]
  have hX2 := tlA_xb (r := r) (n := 1) hX1
  have e9 : gi (tlA σ' r 1) 1 9 = gi σ' 1 9 := by rw [tlA_gi (by decide) (by decide) (by decide)]
  simp only [z10, z00, not_true_eq_false, not_false_eq_true, false_implies, true_implies, implies_true, nI_1, Int32.add_zero, true_or, or_true, true_and, and_true, eI_eq, eL_eq, eR_eq, eV_eq, lg_cmp_ge, lg_cmp_le, lg_cmp_gt, lg_cmp_lt, lg_cmp_eq, v_96_0, v_96_1, v_96_2, v_96_5, v_96_6, v_96_9, v_96_10, v_96_11, v_96_14, v_96_15, v_96_16, v_96_19, v_96_20, v_96_21, v_96_24, v_96_25, v_96_28, v_96_29, v_96_32, v_96_33, okO_si, gr_si_r, hX2.o1, hX2.o3, hX2.o7, hX2.o14, hX2.o20, hX2.r1_0, hX2.r1_1, hX2.r1_2, hX2.r1_3, hX2.r1_4, hX2.r1_5, hX2.r1_6, hX2.r3_0, hX2.r3_1, hX2.r3_2, hX2.r7_0, hX2.r7_1, hX2.r7_2, hX2.r7_3, hX2.r7_8, hX2.r7_9, hX2.r14_0, hX2.r14_1, hX2.r14_2, hX2.r14_3, hX2.r14_5, hX2.r20_0, hX2.r20_1, hX2.r20_2, hX2.r20_3, hX2.r20_5, e9, z10, z00, not_true_eq_false, not_false_eq_true, false_implies, true_implies, implies_true, true_and, and_true, true_or, or_true, false_and, and_false, false_or, or_false]
  exact h σ' h1 h2 h3 h4 h5
def taX (σ2 : Sto) (q r : Rw) : Sto := si (tlA (tlA σ2 q (-1)) r 1) 7 6 0
theorem X_takeAgain {d : Nat} {σ : Sto} {t n o : Nat} {l : List Nat} {r q : Rw} {K : Int32 → Sto → Prop} (hX : XB σ) (ht : t < 20) (hn1 : 103 ≤ n) (hn2 : n < sn σ) (hnl : n ∉ l) (hol : o ∈ l) (hnd : l.Nodup) (hl : lkt σ l none) (hf : gr σ (28 + 2 * t) 0 = l.head?) (hr : rwX σ (rT r) n = r) (hR : okR r) (hq : rwX σ (rT r) o = q) (hQ : okR q) (h0 : cmR r q = 0 → K 0 (si σ 1 10 (gi σ 1 10 + 1))) (h3 : 0 < cmR r q → K 3 (si σ 1 11 (gi σ 1 11 + 1))) (h2 : cmR r q < 0 → ∀ σ1 σ2, scI (28 + 2 * t) l (si σ 1 11 (gi σ 1 11 + 1)) σ1 → scI (28 + 2 * t) (n :: l.erase o) σ1 σ2 → gr σ2 (28 + 2 * t) 0 = (insL σ n (l.erase o)).head? → lkt σ2 (insL σ n (l.erase o)) none → gi σ2 (28 + 2 * t) 1 = gi σ (28 + 2 * t) 1 → gi σ2 (28 + 2 * t) 2 = 0 → K 2 (taX σ2 q r)) : CI (d + 2) 97 [aR (some 1), aR (some (28 + 2 * t)), aR (some o), aR (some n)] σ K := by
  have hg : ∀ a, a ∈ l → 103 ≤ a := fun a ha => (lkt_mem hl a ha).1
  have hoO : okO σ o 1 := okS_of (hg o hol) (lkt_mem hl o hol).2
  have hnO : okO σ n 1 := okS_of hn1 hn2
  refine CI_of ?_
  show Ev (d + 2, 0, 0) 97 0 [aR (some 1), aR (some (28 + 2 * t)), aR (some o), aR (some n), aU] [] σ _
  simp only [z10, z00, not_true_eq_false, not_false_eq_true, false_implies, true_implies, implies_true, nI_1, Int32.add_zero, true_or, or_true, true_and, and_true, eI_eq, eL_eq, eR_eq, eV_eq, lg_cmp_ge, lg_cmp_le, lg_cmp_gt, lg_cmp_lt, lg_cmp_eq, v_97_0, v_97_1, v_97_2, v_97_5, v_97_7, v_97_9, v_97_12, v_97_13, v_97_14, v_97_17, v_97_18, v_97_19, v_97_22, v_97_23, v_97_24, v_97_25, v_97_26, v_97_29, v_97_30, v_97_31, v_97_34, v_97_36, v_97_39, v_97_40, v_97_41, v_97_42, v_97_43, v_97_46, v_97_47, v_97_48, v_97_51, v_97_52, v_97_55, v_97_56, v_97_57, v_97_60, v_97_61, v_97_64, v_97_65, v_97_66, v_97_69, v_97_70, v_97_73, v_97_74, v_97_77, v_97_78, hnO]
  refine X_comparedWith (t := rT r) (u := rT r) hnO hoO ?_
  rw [hr, hq]
  have z0 : ∀ c : Int32, ¬ c = 0 → c ≤ 0 → c < 0 := fun c e1 e2 => by
    rcases Int32.lt_or_eq_of_le e2 with e | e
    · exact e
    · exact absurd e e1
  simp only [z10, z00, not_true_eq_false, not_false_eq_true, false_implies, true_implies, implies_true, nI_1, Int32.add_zero, true_or, or_true, true_and, and_true, eI_eq, eL_eq, eR_eq, eV_eq, lg_cmp_ge, lg_cmp_le, lg_cmp_gt, lg_cmp_lt, lg_cmp_eq, v_97_0, v_97_1, v_97_2, v_97_5, v_97_7, v_97_9, v_97_12, v_97_13, v_97_14, v_97_17, v_97_18, v_97_19, v_97_22, v_97_23, v_97_24, v_97_25, v_97_26, v_97_29, v_97_30, v_97_31, v_97_34, v_97_36, v_97_39, v_97_40, v_97_41, v_97_42, v_97_43, v_97_46, v_97_47, v_97_48, v_97_51, v_97_52, v_97_55, v_97_56, v_97_57, v_97_60, v_97_61, v_97_64, v_97_65, v_97_66, v_97_69, v_97_70, v_97_73, v_97_74, v_97_77, v_97_78, hX.o1, hX.o3, hX.o7, hX.o14, hX.o20, hX.r1_0, hX.r1_1, hX.r1_2, hX.r1_3, hX.r1_4, hX.r1_5, hX.r1_6, hX.r3_0, hX.r3_1, hX.r3_2, hX.r7_0, hX.r7_1, hX.r7_2, hX.r7_3, hX.r7_8, hX.r7_9, hX.r14_0, hX.r14_1, hX.r14_2, hX.r14_3, hX.r14_5, hX.r20_0, hX.r20_1, hX.r20_2, hX.r20_3, hX.r20_5, okO_si, hX.oT ht]
  refine ⟨fun g => ⟨fun g2 => ?_, fun g2 => h3 (Int32.not_le.mp g2)⟩, fun g => ?_⟩
  · have hX0 : XB (si σ 1 11 (gi σ 1 11 + 1)) := XB_of (σ := σ) (Nat.le_refl _) (fun _ _ _ _ => rfl) hX
    have hl0 : lkt (si σ 1 11 (gi σ 1 11 + 1)) l none := lkt_si hl
    refine X_remove (hX0.oT ht) (by omega) hnd hl0 hf hol (fun σ1 k1 k2 k3 k4 k5 => ?_)
    have hX1 := scI_xb hg k1 hX0
    have hg2 : ∀ a, a ∈ n :: l.erase o → 103 ≤ a := fun a ha => by
      rcases List.mem_cons.mp ha with e | e
      · rw [e]; exact hn1
      · exact hg a (List.mem_of_mem_erase e)
    simp only [z10, z00, not_true_eq_false, not_false_eq_true, false_implies, true_implies, implies_true, nI_1, Int32.add_zero, true_or, or_true, true_and, and_true, eI_eq, eL_eq, eR_eq, eV_eq, lg_cmp_ge, lg_cmp_le, lg_cmp_gt, lg_cmp_lt, lg_cmp_eq, v_97_0, v_97_1, v_97_2, v_97_5, v_97_7, v_97_9, v_97_12, v_97_13, v_97_14, v_97_17, v_97_18, v_97_19, v_97_22, v_97_23, v_97_24, v_97_25, v_97_26, v_97_29, v_97_30, v_97_31, v_97_34, v_97_36, v_97_39, v_97_40, v_97_41, v_97_42, v_97_43, v_97_46, v_97_47, v_97_48, v_97_51, v_97_52, v_97_55, v_97_56, v_97_57, v_97_60, v_97_61, v_97_64, v_97_65, v_97_66, v_97_69, v_97_70, v_97_73, v_97_74, v_97_77, v_97_78, hX1.o1, hX1.o3, hX1.o7, hX1.o14, hX1.o20, hX1.r1_0, hX1.r1_1, hX1.r1_2, hX1.r1_3, hX1.r1_4, hX1.r1_5, hX1.r1_6, hX1.r3_0, hX1.r3_1, hX1.r3_2, hX1.r7_0, hX1.r7_1, hX1.r7_2, hX1.r7_3, hX1.r7_8, hX1.r7_9, hX1.r14_0, hX1.r14_1, hX1.r14_2, hX1.r14_3, hX1.r14_5, hX1.r20_0, hX1.r20_1, hX1.r20_2, hX1.r20_3, hX1.r20_5, hX1.oT ht, z10, z00, not_true_eq_false, not_false_eq_true, false_implies, true_implies, implies_true, true_and, and_true, true_or, or_true, false_and, and_false, false_or, or_false]
    refine X_insert (hX1.oT ht) (by omega) hn1 (by rw [k1.1]; exact hn2) (fun e => hnl (List.mem_of_mem_erase e)) (hnd.erase o) k3 k2 (fun σ2 m1 m2 m3 m4 m5 => ?_)
    have hX2 := scI_xb hg2 m1 hX1
    have rw2 : ∀ u a, 103 ≤ a → rwX σ2 u a = rwX σ u a := fun u a ha => by
      rw [scI_rw ht m1 ha, scI_rw ht k1 ha]
      unfold rwX
      simp only [gi_si_k, gl_si_r, show ¬ (a = 1) by omega, false_and, if_false]
    have ah2 : ∀ a b, 103 ≤ a → 103 ≤ b → ahX σ1 a b = ahX σ a b := fun a b ha hb => by
      unfold ahX
      rw [scI_rw ht k1 ha, scI_rw ht k1 hb]
      unfold rwX
      simp only [gi_si_k, gl_si_r, show ¬ (a = 1) by omega, show ¬ (b = 1) by omega, false_and, if_false]
    have ei : ∀ m : List Nat, (∀ a, a ∈ m → 103 ≤ a) → insL σ1 n m = insL σ n m := by
      intro m
      induction m with
      | nil => intro _; rfl
      | cons a m ih =>
        intro hm
        rw [insL, insL, ah2 a n (hm a (List.mem_cons_self ..)) hn1, ih (fun b hb => hm b (List.mem_cons_of_mem _ hb))]
    rw [ei _ (fun a ha => hg a (List.mem_of_mem_erase ha))] at m2 m3
    have s2 : sn σ2 = sn σ := m1.1.trans k1.1
    simp only [z10, z00, not_true_eq_false, not_false_eq_true, false_implies, true_implies, implies_true, nI_1, Int32.add_zero, true_or, or_true, true_and, and_true, eI_eq, eL_eq, eR_eq, eV_eq, lg_cmp_ge, lg_cmp_le, lg_cmp_gt, lg_cmp_lt, lg_cmp_eq, v_97_0, v_97_1, v_97_2, v_97_5, v_97_7, v_97_9, v_97_12, v_97_13, v_97_14, v_97_17, v_97_18, v_97_19, v_97_22, v_97_23, v_97_24, v_97_25, v_97_26, v_97_29, v_97_30, v_97_31, v_97_34, v_97_36, v_97_39, v_97_40, v_97_41, v_97_42, v_97_43, v_97_46, v_97_47, v_97_48, v_97_51, v_97_52, v_97_55, v_97_56, v_97_57, v_97_60, v_97_61, v_97_64, v_97_65, v_97_66, v_97_69, v_97_70, v_97_73, v_97_74, v_97_77, v_97_78, hX2.o1, hX2.o3, hX2.o7, hX2.o14, hX2.o20, hX2.r1_0, hX2.r1_1, hX2.r1_2, hX2.r1_3, hX2.r1_4, hX2.r1_5, hX2.r1_6, hX2.r3_0, hX2.r3_1, hX2.r3_2, hX2.r7_0, hX2.r7_1, hX2.r7_2, hX2.r7_3, hX2.r7_8, hX2.r7_9, hX2.r14_0, hX2.r14_1, hX2.r14_2, hX2.r14_3, hX2.r14_5, hX2.r20_0, hX2.r20_1, hX2.r20_2, hX2.r20_3, hX2.r20_5, z10, z00, not_true_eq_false, not_false_eq_true, false_implies, true_implies, implies_true, true_and, and_true, true_or, or_true, false_and, and_false, false_or, or_false]
    refine X_addT (t := rT r) hX2 (okS_of (hg o hol) (by rw [s2]; exact hoO.1)) (hg o hol) (by rw [rw2 _ _ (hg o hol), hq]; exact hQ) ?_
    rw [rw2 _ _ (hg o hol), hq]
    have hX3 := tlA_xb (r := q) (n := -1) hX2
    have rw3 : rwX (tlA σ2 q (-1)) (rT r) n = r := by
      have : rwX (tlA σ2 q (-1)) (rT r) n = rwX σ2 (rT r) n := by
        unfold rwX
        rw [tlA_gi (by omega) (by omega) (by omega)]
        rfl
      rw [this, rw2 _ _ hn1, hr]
    simp only [z10, z00, not_true_eq_false, not_false_eq_true, false_implies, true_implies, implies_true, nI_1, Int32.add_zero, true_or, or_true, true_and, and_true, eI_eq, eL_eq, eR_eq, eV_eq, lg_cmp_ge, lg_cmp_le, lg_cmp_gt, lg_cmp_lt, lg_cmp_eq, v_97_0, v_97_1, v_97_2, v_97_5, v_97_7, v_97_9, v_97_12, v_97_13, v_97_14, v_97_17, v_97_18, v_97_19, v_97_22, v_97_23, v_97_24, v_97_25, v_97_26, v_97_29, v_97_30, v_97_31, v_97_34, v_97_36, v_97_39, v_97_40, v_97_41, v_97_42, v_97_43, v_97_46, v_97_47, v_97_48, v_97_51, v_97_52, v_97_55, v_97_56, v_97_57, v_97_60, v_97_61, v_97_64, v_97_65, v_97_66, v_97_69, v_97_70, v_97_73, v_97_74, v_97_77, v_97_78, hX3.o1, hX3.o3, hX3.o7, hX3.o14, hX3.o20, hX3.r1_0, hX3.r1_1, hX3.r1_2, hX3.r1_3, hX3.r1_4, hX3.r1_5, hX3.r1_6, hX3.r3_0, hX3.r3_1, hX3.r3_2, hX3.r7_0, hX3.r7_1, hX3.r7_2, hX3.r7_3, hX3.r7_8, hX3.r7_9, hX3.r14_0, hX3.r14_1, hX3.r14_2, hX3.r14_3, hX3.r14_5, hX3.r20_0, hX3.r20_1, hX3.r20_2, hX3.r20_3, hX3.r20_5, z10, z00, not_true_eq_false, not_false_eq_true, false_implies, true_implies, implies_true, true_and, and_true, true_or, or_true, false_and, and_false, false_or, or_false]
    refine X_addT (t := rT r) hX3 (okS_of hn1 (by show n < sn σ2; rw [s2]; exact hn2)) hn1 (by rw [rw3]; exact hR) ?_
    rw [rw3]
    have hX4 := tlA_xb (r := r) (n := 1) hX3
    simp only [z10, z00, not_true_eq_false, not_false_eq_true, false_implies, true_implies, implies_true, nI_1, Int32.add_zero, true_or, or_true, true_and, and_true, eI_eq, eL_eq, eR_eq, eV_eq, lg_cmp_ge, lg_cmp_le, lg_cmp_gt, lg_cmp_lt, lg_cmp_eq, v_97_0, v_97_1, v_97_2, v_97_5, v_97_7, v_97_9, v_97_12, v_97_13, v_97_14, v_97_17, v_97_18, v_97_19, v_97_22, v_97_23, v_97_24, v_97_25, v_97_26, v_97_29, v_97_30, v_97_31, v_97_34, v_97_36, v_97_39, v_97_40, v_97_41, v_97_42, v_97_43, v_97_46, v_97_47, v_97_48, v_97_51, v_97_52, v_97_55, v_97_56, v_97_57, v_97_60, v_97_61, v_97_64, v_97_65, v_97_66, v_97_69, v_97_70, v_97_73, v_97_74, v_97_77, v_97_78, hX4.o1, hX4.o3, hX4.o7, hX4.o14, hX4.o20, hX4.r1_0, hX4.r1_1, hX4.r1_2, hX4.r1_3, hX4.r1_4, hX4.r1_5, hX4.r1_6, hX4.r3_0, hX4.r3_1, hX4.r3_2, hX4.r7_0, hX4.r7_1, hX4.r7_2, hX4.r7_3, hX4.r7_8, hX4.r7_9, hX4.r14_0, hX4.r14_1, hX4.r14_2, hX4.r14_3, hX4.r14_5, hX4.r20_0, hX4.r20_1, hX4.r20_2, hX4.r20_3, hX4.r20_5, z10, z00, not_true_eq_false, not_false_eq_true, false_implies, true_implies, implies_true, true_and, and_true, true_or, or_true, false_and, and_false, false_or, or_false]
    refine h2 (z0 _ g g2) σ1 σ2 k1 m1 m2 m3 ?_ m5
    rw [m4, k4, gi_si_k, if_neg (by omega)]
    exact Int32.sub_add_cancel _ _
  · exact h0 g
theorem okR_gd {t n p v c x : Int32} {b e : Int64} (h : gdR t n p v c x b e) : okR (t, n, p, v, c, x - x / 8 * 8, x / 8, b, e) := by
  obtain ⟨h1, h2, h3, h4, h5, h6, h7, h8, h9, h10, h11, h12, h13, h14, h15, h16⟩ := h
  obtain ⟨t', ht, rfl⟩ := ix_of (n := 20) (by decide) h1 h2
  obtain ⟨n', hn, rfl⟩ := nI_of2 (x := n) (M := 999) (n := 999) rfl (fun q => h3 (Int32.lt_trans q (by decide))) (Int32.not_lt.mp h4)
  obtain ⟨p', hp, rfl⟩ := nI_of2 (x := p) (M := 999) (n := 999) rfl h5 (Int32.not_lt.mp h6)
  obtain ⟨v', hv, rfl⟩ := ix_of (n := 6) (by decide) h7 h8
  obtain ⟨c', hc, rfl⟩ := ix_of (n := 8) (by decide) h9 h10
  obtain ⟨x', hx, rfl⟩ := nI_of2 (x := x) (M := 12) (n := 12) rfl h11 (Int32.not_lt.mp h12)
  obtain ⟨b', hb, rfl⟩ := pk_lOf h14
  have hb0 : ¬ e < 0 := fun q => h15 (Int64.lt_of_lt_of_le q (Int64.not_lt.mp h14))
  obtain ⟨e', he, rfl⟩ := pk_lOf hb0
  have t9 : (1000000000 : Int64).toInt = 1000000000 := by decide
  have he9 : e' ≤ 1000000000 := by
    have q := Int64.not_lt.mp h16
    rw [Int64.le_iff_toInt_le, pk_lT he, t9] at q
    omega
  have hbe : b' ≤ e' := (pk_lLE hb he).mp (Int64.not_lt.mp h15)
  have n1 : 1 ≤ n' := Nat.le_of_not_lt (fun q => h3 ((nI_ltI (a := n') (b := 1) (by omega) (by omega)).mpr q))
  have e8 : nI x' / 8 = nI (x' / 8) := pk_div (d := 8) (by omega) (by omega) (by omega)
  have e8r : nI x' - nI x' / 8 * 8 = nI (x' % 8) := pk_rem (d := 8) (by omega) (by omega) (by omega)
  rw [e8r] at h13 ⊢
  rw [e8]
  have k4 : x' % 8 ≤ 4 := (nI_leI (by omega) (by omega)).mp (Int32.not_lt.mp h13)
  exact ⟨⟨t', ht, rfl⟩, ⟨n', n1, hn, rfl⟩, ⟨p', hp, rfl⟩, ⟨v', hv, rfl⟩, ⟨c', hc, rfl⟩, ⟨x' % 8, k4, rfl⟩, ⟨x' / 8, by omega, rfl⟩, ⟨b', e', hbe, he9, rfl, rfl⟩⟩
theorem X_report {d : Nat} {σ : Sto} {L : Nat → List Nat} {K : Int32 → Sto → Prop} (hI : XI σ L) {x n p v c k : Int32} {b e : Int64} {r : Rw} (er : r = (x, n, p, v, c, k - k / 8 * 8, k / 8, b, e)) (hB : ¬ gdR x n p v c k b e → K (-2) σ) (h : gdR x n p v c k b e → okR r → ∀ t, t < 20 → x = nI t → (¬ gi σ (28 + 2 * t) 3 = 0 → K (-3) (si σ 1 13 (gi σ 1 13 + 1))) ∧ (gi σ (28 + 2 * t) 3 = 0 → ((L t).find? (nuX σ n) = none → ((30 ≤ nI (L t).length ∨ 200 ≤ gi σ 1 9) → K (-4) σ) ∧ (¬ 30 ≤ nI (L t).length → ¬ 200 ≤ gi σ 1 9 → ∀ σ', scI (28 + 2 * t) (sn σ :: L t) (nwX σ r) σ' → gr σ' (28 + 2 * t) 0 = (insL (nwX σ r) (sn σ) (L t)).head? → lkt σ' (insL (nwX σ r) (sn σ) (L t)) none → gi σ' (28 + 2 * t) 1 = gi σ (28 + 2 * t) 1 + 1 → gi σ' (28 + 2 * t) 2 = 0 → K 1 (tnX σ' r))) ∧ (∀ a, (L t).find? (nuX σ n) = some a → a ∈ L t → (cmR r (rwX σ x a) = 0 → K 0 (si (nwX σ r) 1 10 (gi σ 1 10 + 1))) ∧ (0 < cmR r (rwX σ x a) → K 3 (si (nwX σ r) 1 11 (gi σ 1 11 + 1))) ∧ (cmR r (rwX σ x a) < 0 → ∀ σ1 σ2, scI (28 + 2 * t) (L t) (si (nwX σ r) 1 11 (gi σ 1 11 + 1)) σ1 → scI (28 + 2 * t) (sn σ :: (L t).erase a) σ1 σ2 → gr σ2 (28 + 2 * t) 0 = (insL (nwX σ r) (sn σ) ((L t).erase a)).head? → lkt σ2 (insL (nwX σ r) (sn σ) ((L t).erase a)) none → gi σ2 (28 + 2 * t) 1 = gi σ (28 + 2 * t) 1 → gi σ2 (28 + 2 * t) 2 = 0 → K 2 (taX σ2 (rwX σ x a) r))))) : CI (d + 3) 60 [aR (some 1), aI x, aI n, aI p, aI v, aI c, aI k, aL b, aL e] σ K := by
  refine CI_of ?_
  show Ev (d + 3, 1, 12) 60 0 [aR (some 1), aI x, aI n, aI p, aI v, aI c, aI k, aL b, aU, aL e, aU, aU, aU, aU] [] σ _
  simp only [z10, z00, not_true_eq_false, not_false_eq_true, false_implies, true_implies, implies_true, nI_1, Int32.add_zero, true_or, or_true, true_and, and_true, eI_eq, eL_eq, eR_eq, eV_eq, lg_cmp_ge, lg_cmp_le, lg_cmp_gt, lg_cmp_lt, lg_cmp_eq, v_60_0, v_60_1, v_60_2, v_60_5, v_60_7, v_60_9, v_60_12, v_60_13, v_60_14, v_60_17, v_60_18, v_60_21, v_60_24, v_60_25, v_60_28, v_60_29, v_60_32, v_60_35, v_60_37, hI.xb.o1, hI.xb.o3, hI.xb.o7, hI.xb.o14, hI.xb.o20, hI.xb.r1_0, hI.xb.r1_1, hI.xb.r1_2, hI.xb.r1_3, hI.xb.r1_4, hI.xb.r1_5, hI.xb.r1_6, hI.xb.r3_0, hI.xb.r3_1, hI.xb.r3_2, hI.xb.r7_0, hI.xb.r7_1, hI.xb.r7_2, hI.xb.r7_3, hI.xb.r7_8, hI.xb.r7_9, hI.xb.r14_0, hI.xb.r14_1, hI.xb.r14_2, hI.xb.r14_3, hI.xb.r14_5, hI.xb.r20_0, hI.xb.r20_1, hI.xb.r20_2, hI.xb.r20_3, hI.xb.r20_5]
  refine X_traceAt hI.xb (fun q => ?_) (fun t ht ex => ?_)
  · simp only [reduceCtorEq, z10, z00, not_true_eq_false, not_false_eq_true, false_implies, true_implies, implies_true, nI_1, Int32.add_zero, true_or, or_true, true_and, and_true, eI_eq, eL_eq, eR_eq, eV_eq, lg_cmp_ge, lg_cmp_le, lg_cmp_gt, lg_cmp_lt, lg_cmp_eq, v_60_0, v_60_1, v_60_2, v_60_5, v_60_7, v_60_9, v_60_12, v_60_13, v_60_14, v_60_17, v_60_18, v_60_21, v_60_24, v_60_25, v_60_28, v_60_29, v_60_32, v_60_35, v_60_37, z10, z00, not_true_eq_false, not_false_eq_true, false_implies, true_implies, implies_true, true_and, and_true, true_or, or_true, false_and, and_false, false_or, or_false]
    exact hB (fun g => by rcases q with q | q; exact g.1 q; exact g.2.1 q)
  simp only [reduceCtorEq, z10, z00, not_true_eq_false, not_false_eq_true, false_implies, true_implies, implies_true, nI_1, Int32.add_zero, true_or, or_true, true_and, and_true, eI_eq, eL_eq, eR_eq, eV_eq, lg_cmp_ge, lg_cmp_le, lg_cmp_gt, lg_cmp_lt, lg_cmp_eq, v_60_0, v_60_1, v_60_2, v_60_5, v_60_7, v_60_9, v_60_12, v_60_13, v_60_14, v_60_17, v_60_18, v_60_21, v_60_24, v_60_25, v_60_28, v_60_29, v_60_32, v_60_35, v_60_37, z10, z00, not_true_eq_false, not_false_eq_true, false_implies, true_implies, implies_true, true_and, and_true, true_or, or_true, false_and, and_false, false_or, or_false]
  refine ⟨fun q => hB (fun g => g.2.2.1 q), fun g3 => ⟨fun q => hB (fun g => g.2.2.2.1 q), fun g4 => ⟨fun q => hB (fun g => g.2.2.2.2.1 q), fun g5 => ⟨fun q6 => ?_, fun q => hB (fun g => g.2.2.2.2.2.1 (Int32.not_le.mp q))⟩⟩⟩⟩
  simp only [z10, z00, not_true_eq_false, not_false_eq_true, false_implies, true_implies, implies_true, nI_1, Int32.add_zero, true_or, or_true, true_and, and_true, eI_eq, eL_eq, eR_eq, eV_eq, lg_cmp_ge, lg_cmp_le, lg_cmp_gt, lg_cmp_lt, lg_cmp_eq, v_60_38, v_60_40, v_60_43, v_60_46, v_60_48, v_60_51, v_60_54, v_60_56, v_60_59, v_60_62, v_60_64, v_60_66, v_60_69, v_60_72, v_60_74, z10, z00, not_true_eq_false, not_false_eq_true, false_implies, true_implies, implies_true, true_and, and_true, true_or, or_true, false_and, and_false, false_or, or_false]
  refine X_isService (fun q => ?_) (fun v' hv ev => ?_)
  · simp only [z10, z00, not_true_eq_false, not_false_eq_true, false_implies, true_implies, implies_true, nI_1, Int32.add_zero, true_or, or_true, true_and, and_true, eI_eq, eL_eq, eR_eq, eV_eq, lg_cmp_ge, lg_cmp_le, lg_cmp_gt, lg_cmp_lt, lg_cmp_eq, v_60_38, v_60_40, v_60_43, v_60_46, v_60_48, v_60_51, v_60_54, v_60_56, v_60_59, v_60_62, v_60_64, v_60_66, v_60_69, v_60_72, v_60_74, z10, z00, not_true_eq_false, not_false_eq_true, false_implies, true_implies, implies_true, true_and, and_true, true_or, or_true, false_and, and_false, false_or, or_false]
    exact hB (fun g => by rcases q with q | q; exact g.2.2.2.2.2.2.1 q; exact g.2.2.2.2.2.2.2.1 q)
  simp only [z10, z00, not_true_eq_false, not_false_eq_true, false_implies, true_implies, implies_true, nI_1, Int32.add_zero, true_or, or_true, true_and, and_true, eI_eq, eL_eq, eR_eq, eV_eq, lg_cmp_ge, lg_cmp_le, lg_cmp_gt, lg_cmp_lt, lg_cmp_eq, v_60_38, v_60_40, v_60_43, v_60_46, v_60_48, v_60_51, v_60_54, v_60_56, v_60_59, v_60_62, v_60_64, v_60_66, v_60_69, v_60_72, v_60_74, z10, z00, not_true_eq_false, not_false_eq_true, false_implies, true_implies, implies_true, true_and, and_true, true_or, or_true, false_and, and_false, false_or, or_false]
  refine X_isAct (fun q => ?_) (fun c' hc ec => ?_)
  · simp only [z10, z00, not_true_eq_false, not_false_eq_true, false_implies, true_implies, implies_true, nI_1, Int32.add_zero, true_or, or_true, true_and, and_true, eI_eq, eL_eq, eR_eq, eV_eq, lg_cmp_ge, lg_cmp_le, lg_cmp_gt, lg_cmp_lt, lg_cmp_eq, v_60_38, v_60_40, v_60_43, v_60_46, v_60_48, v_60_51, v_60_54, v_60_56, v_60_59, v_60_62, v_60_64, v_60_66, v_60_69, v_60_72, v_60_74, z10, z00, not_true_eq_false, not_false_eq_true, false_implies, true_implies, implies_true, true_and, and_true, true_or, or_true, false_and, and_false, false_or, or_false]
    exact hB (fun g => by rcases q with q | q; exact g.2.2.2.2.2.2.2.2.1 q; exact g.2.2.2.2.2.2.2.2.2.1 q)
  simp only [z10, z00, not_true_eq_false, not_false_eq_true, false_implies, true_implies, implies_true, nI_1, Int32.add_zero, true_or, or_true, true_and, and_true, eI_eq, eL_eq, eR_eq, eV_eq, lg_cmp_ge, lg_cmp_le, lg_cmp_gt, lg_cmp_lt, lg_cmp_eq, v_60_38, v_60_40, v_60_43, v_60_46, v_60_48, v_60_51, v_60_54, v_60_56, v_60_59, v_60_62, v_60_64, v_60_66, v_60_69, v_60_72, v_60_74, z10, z00, not_true_eq_false, not_false_eq_true, false_implies, true_implies, implies_true, true_and, and_true, true_or, or_true, false_and, and_false, false_or, or_false]
  refine X_isKind (fun q => ?_) (fun hk => ?_)
  · simp only [z10, z00, not_true_eq_false, not_false_eq_true, false_implies, true_implies, implies_true, nI_1, Int32.add_zero, true_or, or_true, true_and, and_true, eI_eq, eL_eq, eR_eq, eV_eq, lg_cmp_ge, lg_cmp_le, lg_cmp_gt, lg_cmp_lt, lg_cmp_eq, v_60_38, v_60_40, v_60_43, v_60_46, v_60_48, v_60_51, v_60_54, v_60_56, v_60_59, v_60_62, v_60_64, v_60_66, v_60_69, v_60_72, v_60_74, z10, z00, not_true_eq_false, not_false_eq_true, false_implies, true_implies, implies_true, true_and, and_true, true_or, or_true, false_and, and_false, false_or, or_false]
    exact hB (fun g => q ⟨g.2.2.2.2.2.2.2.2.2.2.1, g.2.2.2.2.2.2.2.2.2.2.2.1, g.2.2.2.2.2.2.2.2.2.2.2.2.1⟩)
  simp only [z10, z00, not_true_eq_false, not_false_eq_true, false_implies, true_implies, implies_true, nI_1, Int32.add_zero, true_or, or_true, true_and, and_true, eI_eq, eL_eq, eR_eq, eV_eq, lg_cmp_ge, lg_cmp_le, lg_cmp_gt, lg_cmp_lt, lg_cmp_eq, v_60_38, v_60_40, v_60_43, v_60_46, v_60_48, v_60_51, v_60_54, v_60_56, v_60_59, v_60_62, v_60_64, v_60_66, v_60_69, v_60_72, v_60_74, z10, z00, not_true_eq_false, not_false_eq_true, false_implies, true_implies, implies_true, true_and, and_true, true_or, or_true, false_and, and_false, false_or, or_false]
  refine X_areTimes (fun q => ?_) (fun hb => ?_)
  · simp only [z10, z00, not_true_eq_false, not_false_eq_true, false_implies, true_implies, implies_true, nI_1, Int32.add_zero, true_or, or_true, true_and, and_true, eI_eq, eL_eq, eR_eq, eV_eq, lg_cmp_ge, lg_cmp_le, lg_cmp_gt, lg_cmp_lt, lg_cmp_eq, v_60_38, v_60_40, v_60_43, v_60_46, v_60_48, v_60_51, v_60_54, v_60_56, v_60_59, v_60_62, v_60_64, v_60_66, v_60_69, v_60_72, v_60_74, z10, z00, not_true_eq_false, not_false_eq_true, false_implies, true_implies, implies_true, true_and, and_true, true_or, or_true, false_and, and_false, false_or, or_false]
    exact hB (fun g => q g.2.2.2.2.2.2.2.2.2.2.2.2.2)
  simp only [z10, z00, not_true_eq_false, not_false_eq_true, false_implies, true_implies, implies_true, nI_1, Int32.add_zero, true_or, or_true, true_and, and_true, eI_eq, eL_eq, eR_eq, eV_eq, lg_cmp_ge, lg_cmp_le, lg_cmp_gt, lg_cmp_lt, lg_cmp_eq, v_60_38, v_60_40, v_60_43, v_60_46, v_60_48, v_60_51, v_60_54, v_60_56, v_60_59, v_60_62, v_60_64, v_60_66, v_60_69, v_60_72, v_60_74, z10, z00, not_true_eq_false, not_false_eq_true, false_implies, true_implies, implies_true, true_and, and_true, true_or, or_true, false_and, and_false, false_or, or_false]
  have hx0 : ¬ x < 0 ∧ ¬ 20 ≤ x := by rw [ex]; exact ⟨nI_pos (by omega), nI_ge (a := t) (b := 20) ht (by omega)⟩
  have hv0 : ¬ v < 0 ∧ ¬ 6 ≤ v := by rw [ev]; exact ⟨nI_pos (by omega), nI_ge (a := v') (b := 6) hv (by omega)⟩
  have hc0 : ¬ c < 0 ∧ ¬ 8 ≤ c := by rw [ec]; exact ⟨nI_pos (by omega), nI_ge (a := c') (b := 8) hc (by omega)⟩
  have hgd : gdR x n p v c k b e := ⟨hx0.1, hx0.2, g3, g4, g5, Int32.not_lt.mpr q6, hv0.1, hv0.2, hc0.1, hc0.2, hk.1, hk.2.1, hk.2.2, hb.1, hb.2.1, hb.2.2⟩
  have hR : okR r := by rw [er]; exact okR_gd hgd
  obtain ⟨hA, hC⟩ := h hgd hR t ht ex
  have hg := hI.g ht
  have hT := hI.t ht
  have s103 := hI.xb.1
  have hnl : sn σ ∉ L t := fun q => by have := (lkt_mem hT.2.2.2.1 _ q).2; omega
  simp only [z10, z00, not_true_eq_false, not_false_eq_true, false_implies, true_implies, implies_true, nI_1, Int32.add_zero, true_or, or_true, true_and, and_true, eI_eq, eL_eq, eR_eq, eV_eq, lg_cmp_ge, lg_cmp_le, lg_cmp_gt, lg_cmp_lt, lg_cmp_eq, v_60_75, v_60_77, v_60_80, v_60_83, v_60_84, v_60_85, v_60_88, v_60_89, v_60_90, v_60_93, v_60_95, v_60_96, v_60_98, v_60_99, v_60_102, v_60_104, v_60_106, hI.xb.oT ht, hI.xb.o1, hI.xb.o3, hI.xb.o7, hI.xb.o14, hI.xb.o20, hI.xb.r1_0, hI.xb.r1_1, hI.xb.r1_2, hI.xb.r1_3, hI.xb.r1_4, hI.xb.r1_5, hI.xb.r1_6, hI.xb.r3_0, hI.xb.r3_1, hI.xb.r3_2, hI.xb.r7_0, hI.xb.r7_1, hI.xb.r7_2, hI.xb.r7_3, hI.xb.r7_8, hI.xb.r7_9, hI.xb.r14_0, hI.xb.r14_1, hI.xb.r14_2, hI.xb.r14_3, hI.xb.r14_5, hI.xb.r20_0, hI.xb.r20_1, hI.xb.r20_2, hI.xb.r20_3, hI.xb.r20_5, z10, z00, not_true_eq_false, not_false_eq_true, false_implies, true_implies, implies_true, true_and, and_true, true_or, or_true, false_and, and_false, false_or, or_false]
  refine ⟨fun g => ?_, fun g => hA g⟩
  obtain ⟨hN, hO⟩ := hC g
  refine X_find hT.1 hT.2.2.1 hT.2.2.2.1 ?_
  have kd1 : kd (sn σ) = (1, 12) := kdS _ s103
  have hXn : XB (nwX σ r) := nwX_xb hI.xb
  have rTr : rT r = x := by rw [er]; rfl
  have ha1 : okO (alo σ) (sn σ) 1 := ⟨Nat.lt_succ_self _, by rw [kd1]⟩
  have hnw : rwX (nwX σ r) (rT r) (sn σ) = r := nwX_rw
  have g1 : ∀ j, gi (nwX σ r) 1 j = gi σ 1 j := fun j => by rw [nwX_gi (by omega)]
  have gT : ∀ j, gi (nwX σ r) (28 + 2 * t) j = gi σ (28 + 2 * t) j := fun j => by rw [nwX_gi (by omega)]
  have hfn : gr (nwX σ r) (28 + 2 * t) 0 = (L t).head? := by rw [nwX_gr (by omega)]; exact hT.2.2.1
  cases hf : (L t).find? (nuX σ n) with
  | none =>
    obtain ⟨h4, h5⟩ := hN hf
    simp only [reduceCtorEq, z10, z00, not_true_eq_false, not_false_eq_true, false_implies, true_implies, implies_true, nI_1, Int32.add_zero, true_or, or_true, true_and, and_true, eI_eq, eL_eq, eR_eq, eV_eq, lg_cmp_ge, lg_cmp_le, lg_cmp_gt, lg_cmp_lt, lg_cmp_eq, v_60_96, v_60_98, v_60_99, v_60_102, v_60_104, v_60_106, v_60_109, v_60_111, v_60_114, v_60_116, v_60_119, v_60_120, v_60_123, v_60_126, v_60_129, v_60_131, hI.xb.oT ht, hI.xb.o1, hI.xb.o3, hI.xb.o7, hI.xb.o14, hI.xb.o20, hI.xb.r1_0, hI.xb.r1_1, hI.xb.r1_2, hI.xb.r1_3, hI.xb.r1_4, hI.xb.r1_5, hI.xb.r1_6, hI.xb.r3_0, hI.xb.r3_1, hI.xb.r3_2, hI.xb.r7_0, hI.xb.r7_1, hI.xb.r7_2, hI.xb.r7_3, hI.xb.r7_8, hI.xb.r7_9, hI.xb.r14_0, hI.xb.r14_1, hI.xb.r14_2, hI.xb.r14_3, hI.xb.r14_5, hI.xb.r20_0, hI.xb.r20_1, hI.xb.r20_2, hI.xb.r20_3, hI.xb.r20_5, hI.n ht, z10, z00, not_true_eq_false, not_false_eq_true, false_implies, true_implies, implies_true, true_and, and_true, true_or, or_true, false_and, and_false, false_or, or_false]
    refine ⟨fun q => h4 (Or.inl q), fun q => ⟨fun q2 => ?_, fun q2 => h4 (Or.inr (Int32.not_lt.mp q2))⟩⟩
    simp only [reduceCtorEq, z10, z00, not_true_eq_false, not_false_eq_true, false_implies, true_implies, implies_true, nI_1, Int32.add_zero, true_or, or_true, true_and, and_true, eI_eq, eL_eq, eR_eq, eV_eq, lg_cmp_ge, lg_cmp_le, lg_cmp_gt, lg_cmp_lt, lg_cmp_eq, v_60_132, v_60_135, v_60_136, v_60_137, v_60_138, v_60_140, v_60_142, v_60_144, v_60_146, v_60_148, v_60_151, v_60_153, v_60_155, v_60_158, v_60_159, v_60_161, v_60_163, v_60_166, v_60_169, v_60_170, v_60_172, v_60_174, v_60_176, v_60_179, kd1, Nat.le_refl, Nat.sub_self, z10, z00, not_true_eq_false, not_false_eq_true, false_implies, true_implies, implies_true, true_and, and_true, true_or, or_true, false_and, and_false, false_or, or_false]
    refine X_spanInit (t := x) ha1 ?_
    rw [← er, show spI (alo σ) (sn σ) r = nwX σ r from rfl]
    refine ⟨hXn.o1, ?_⟩
    refine X_takeNew hXn ht s103 (Nat.lt_succ_self _) hnl hT.2.2.2.2.1 (nwX_lk hT.2.2.2.1) hfn hnw hR (fun σ' k1 k2 k3 k4 k5 => ?_)
    rw [gT] at k4
    exact h5 q (Int32.not_le.mpr q2) σ' k1 k2 k3 k4 k5
  | some a =>
    have ha : a ∈ L t := List.mem_of_find?_eq_some hf
    obtain ⟨h6, h7, h8⟩ := hO a hf ha
    simp only [reduceCtorEq, z10, z00, not_true_eq_false, not_false_eq_true, false_implies, true_implies, implies_true, nI_1, Int32.add_zero, true_or, or_true, true_and, and_true, eI_eq, eL_eq, eR_eq, eV_eq, lg_cmp_ge, lg_cmp_le, lg_cmp_gt, lg_cmp_lt, lg_cmp_eq, v_60_96, v_60_98, v_60_99, v_60_102, v_60_104, v_60_106, v_60_109, v_60_111, v_60_114, v_60_116, v_60_119, v_60_120, v_60_123, v_60_126, v_60_129, v_60_131, v_60_132, v_60_135, v_60_136, v_60_137, v_60_138, v_60_140, v_60_142, v_60_144, v_60_146, v_60_148, v_60_151, v_60_153, v_60_155, v_60_158, v_60_159, v_60_161, v_60_163, v_60_166, v_60_169, v_60_170, v_60_172, v_60_174, v_60_176, v_60_179, kd1, Nat.le_refl, Nat.sub_self, z10, z00, not_true_eq_false, not_false_eq_true, false_implies, true_implies, implies_true, true_and, and_true, true_or, or_true, false_and, and_false, false_or, or_false]
    refine X_spanInit (t := x) ha1 ?_
    rw [← er, show spI (alo σ) (sn σ) r = nwX σ r from rfl]
    refine ⟨hXn.o1, ?_⟩
    have eq : rwX (nwX σ r) (rT r) a = rwX σ x a := by
      have hne : a ≠ sn σ := fun q => hnl (q ▸ ha)
      unfold rwX
      rw [nwX_gi hne, nwX_gl hne, rTr]
    refine X_takeAgain hXn ht s103 (Nat.lt_succ_self _) hnl ha hT.2.2.2.2.1 (nwX_lk hT.2.2.2.1) hfn hnw hR eq (by rw [ex]; exact hI.r ht a ha) (fun q => ?_) (fun q => ?_) (fun q σ1 σ2 k1 k2 k3 k4 k5 k6 => ?_)
    · rw [g1]; exact h6 q
    · rw [g1]; exact h7 q
    · rw [g1] at k1
      rw [gT] at k5
      exact h8 q σ1 σ2 k1 k2 k3 k4 k5 k6
