/-! the reference: close -/
def ddS (acc : List Int32) (x : Int32) : List Int32 := if acc.getLast? = some x then acc else acc ++ [x]
def plR (r : Rw) : Int32 := nI (gfI r)
theorem plR_of {r : Rw} {v c : Nat} (hv : v < 6) (hc : c < 8) (e1 : rV r = nI v) (e2 : rC r = nI c) : plR r = nI (8 * v + c) := by
  unfold plR gfI
  rw [e1, e2, nI_clamp (by omega), nI_clamp (by omega)]
/-- a path is written, of trace t -/
def scC (t : Nat) (σ σ' : Sto) : Prop := sn σ' = sn σ ∧ gr σ' = gr σ ∧ (∀ a, a ≠ 98 → a ≠ 99 → gi σ' a = gi σ a) ∧ (∀ i, i ≠ t → gi σ' 99 i = gi σ 99 i) ∧ (∀ i, ¬ (400 * t ≤ i ∧ i < 400 * t + 400) → gi σ' 98 i = gi σ 98 i) ∧ gl σ' = gl σ
theorem scC.rfl (t : Nat) (σ : Sto) : scC t σ σ := ⟨Eq.refl _, Eq.refl _, fun _ _ _ => Eq.refl _, fun _ _ => Eq.refl _, fun _ _ => Eq.refl _, Eq.refl _⟩
theorem scC.trans {t : Nat} {σ σ' σ'' : Sto} (h1 : scC t σ σ') (h2 : scC t σ' σ'') : scC t σ σ'' := ⟨h2.1.trans h1.1, h2.2.1.trans h1.2.1, fun a e1 e2 => (h2.2.2.1 a e1 e2).trans (h1.2.2.1 a e1 e2), fun a e1 => (h2.2.2.2.1 a e1).trans (h1.2.2.2.1 a e1), fun a e1 => (h2.2.2.2.2.1 a e1).trans (h1.2.2.2.2.1 a e1), h2.2.2.2.2.2.trans h1.2.2.2.2.2⟩
theorem scC.mb {t : Nat} {σ σ' : Sto} {S : Nat} (h : scC t σ σ') (hM : MB σ S) : MB σ' S := by
  obtain ⟨h1, h2, h3, -, -, -⟩ := h
  unfold MB at hM ⊢
  rw [h1, h2, h3 68 (by decide) (by decide)]
  exact hM
theorem scC.rw {t : Nat} {σ σ' : Sto} (h : scC t σ σ') : rwM σ' = rwM σ := by
  funext k
  unfold rwM
  rw [h.2.2.1 69 (by decide) (by decide), h.2.2.1 70 (by decide) (by decide), h.2.2.1 71 (by decide) (by decide), h.2.2.1 72 (by decide) (by decide), h.2.2.1 73 (by decide) (by decide), h.2.2.1 74 (by decide) (by decide), h.2.2.1 75 (by decide) (by decide), h.2.2.2.2.2]
theorem scC.ph {t o : Nat} {σ σ' : Sto} (h : scC t σ σ') (ho : o ≠ t) {l : List Int32} (hl : l.length ≤ 400) (hP : PH σ o l) : PH σ' o l := by
  refine ⟨by rw [h.2.2.2.1 o ho]; exact hP.1, fun i q hq => ?_⟩
  have hi := (List.getElem?_eq_some_iff.mp hq).1
  rw [h.2.2.2.2.1 _ (by omega)]
  exact hP.2 i q hq
theorem M_close_path {b : B3} {σ : Sto} {Q : Po} {S t : Nat} {r : Int32} {ps : List (Nat × Int64 × Int64)} (hM : MB σ S) (hR : ∀ k, k < S → okR (rwM σ k)) (hP : PT σ ps) (hp : ∀ q, q ∈ ps → q.1 < S) (hl : ps.length ≤ 400) (ht : t < 20) : ∀ (n : Nat) (σ1 : Sto) (acc : List Int32) (u4 u5 u6 u7 : AV), n ≤ ps.length → acc.length + n ≤ 400 → scC t σ σ1 → PH σ1 t acc → (∀ σ2 u4 u5, scC t σ σ2 → PH σ2 t (((ps.take n).reverse.map (fun q => plR (rwM σ q.1))).foldl ddS acc) → Ev b 152 151 [aR (some 68), aI (nI t), aI r, aI (-1), u4, u5, u6, u7] [] σ2 Q) → Ev b 152 52 [aR (some 68), aI (nI t), aI r, aI (nI n + (-1)), u4, u5, u6, u7] [] σ1 Q := by
  intro n
  have hct : (nI t).toNatClampNeg = t := nI_clamp (by omega)
  induction n with
  | zero =>
    intro σ1 acc u4 u5 u6 u7 hn hal hs hph h
    have c1 : nI 0 + (-1) < 0 := by decide
    have e1 : nI 0 + (-1) = -1 := by decide
    rw [v_152_52]
    simp only [z10, z00, not_true_eq_false, not_false_eq_true, false_implies, true_implies, implies_true, nI_1, Int32.add_zero, true_or, or_true, true_and, and_true, eI_eq, eL_eq, eR_eq, eV_eq, lg_cmp_ge, lg_cmp_le, lg_cmp_gt, lg_cmp_lt, lg_cmp_eq, v_152_53, c1]
    rw [e1]
    exact h σ1 _ _ hs (by simpa using hph)
  | succ n ih =>
    intro σ1 acc u4 u5 u6 u7 hn hal hs hph h
    have hM1 := hs.mb hM
    have hS := hM.c
    rw [pk_m1]
    have c1 : ¬ nI n < 0 := nI_pos (by omega)
    have hcn : (nI n).toNatClampNeg = n := nI_clamp (by omega)
    have hlt : n < ps.length := by omega
    have hq : ps[n]? = some ps[n] := List.getElem?_eq_getElem hlt
    have hqS := hp _ (List.mem_of_getElem? hq)
    obtain ⟨p1, -, -⟩ := hP.2 _ _ hq
    have etk : (ps.take (n + 1)).reverse = ps[n] :: (ps.take n).reverse := by
      rw [List.take_add_one, hq]
      simp
    rw [etk] at h
    generalize ps[n] = q at hq hqS p1 h
    have e89 : gi σ1 89 n = nI q.1 := by rw [hs.2.2.1 89 (by decide) (by decide)]; exact p1
    have hcq : (nI q.1).toNatClampNeg = q.1 := nI_clamp (by omega)
    obtain ⟨-, -, -, ⟨v, hv, ev⟩, ⟨c, hc, ec⟩, -⟩ := hR q.1 hqS
    have e72 : gi σ1 72 q.1 = nI v := by rw [hs.2.2.1 72 (by decide) (by decide)]; exact ev
    have e73 : gi σ1 73 q.1 = nI c := by rw [hs.2.2.1 73 (by decide) (by decide)]; exact ec
    have epl := plR_of hv hc ev ec
    simp only [List.map_cons, List.foldl_cons, epl] at h
    have hax : 400 * t + acc.length < 8000 := by omega
    have hcx : (nI (400 * t + acc.length)).toNatClampNeg = 400 * t + acc.length := nI_clamp (by omega)
    have go : Ev b 152 120 [aR (some 68), aI (nI t), aI r, aI (nI n), aI (nI (8 * v + c)), aI (nI acc.length), u6, u7] [] σ1 Q ∨ True := Or.inr trivial
    have push : ¬ acc.getLast? = some (nI (8 * v + c)) → Ev b 152 120 [aR (some 68), aI (nI t), aI r, aI (nI n), aI (nI (8 * v + c)), aI (nI acc.length), u6, u7] [] σ1 Q := by
      intro hne
      have e99 : gi (si σ1 98 (400 * t + acc.length) (nI (8 * v + c))) 99 t = nI acc.length := by rw [gi_si_r, if_neg (by decide)]; exact hph.1
      simp only [z10, z00, not_true_eq_false, not_false_eq_true, false_implies, true_implies, implies_true, nI_1, Int32.add_zero, true_or, or_true, true_and, and_true, eI_eq, eL_eq, eR_eq, eV_eq, lg_cmp_ge, lg_cmp_le, lg_cmp_gt, lg_cmp_lt, lg_cmp_eq, v_152_120, v_152_121, v_152_124, v_152_127, v_152_128, v_152_129, v_152_131, v_152_132, v_152_134, v_152_135, v_152_136, v_152_139, v_152_140, v_152_141, v_152_142, v_152_143, v_152_144, v_152_145, v_152_148, hM1.o, hM1.r39, hM1.r40, ix4, hM1.a98 (k := _) hax, hcx, okO_si, okA_si, okX_si, gr_si_r, hM1.x99 (k := t) ht, hM1.a99 (k := t) ht, hct, e99, nI_1]
      refine ih _ (acc ++ [nI (8 * v + c)]) _ _ _ _ (by omega) (by simp only [List.length_append, List.length_cons, List.length_nil]; omega) (hs.trans ⟨rfl, rfl, fun a h1 h2 => ?_, fun i hi => ?_, fun i hi => ?_, rfl⟩) ⟨?_, fun i q' hq' => ?_⟩ ?_
      · rw [gi_si_r, if_neg h2, gi_si_r, if_neg h1]
      · rw [gi_si_r, if_pos rfl, up1, if_neg hi, gi_si_r, if_neg (by decide)]
      · rw [gi_si_r, if_neg (by decide), gi_si_r, if_pos rfl, up1, if_neg (by omega)]
      · rw [gi_si_r, if_pos rfl, up1, if_pos rfl, List.length_append]; rfl
      · rw [gi_si_r, if_neg (by decide), gi_si_r, if_pos rfl, up1]
        by_cases hi : i = acc.length
        · subst hi
          rw [List.getElem?_append_right (Nat.le_refl _), Nat.sub_self] at hq'
          cases hq'
          simp
        · have hlt : i < acc.length := by
            have := (List.getElem?_eq_some_iff.mp hq').1
            simp only [List.length_append, List.length_cons, List.length_nil] at this
            omega
          rw [if_neg (by omega)]
          rw [List.getElem?_append_left hlt] at hq'
          exact hph.2 i q' hq'
      · have e : ddS acc (nI (8 * v + c)) = acc ++ [nI (8 * v + c)] := by unfold ddS; rw [if_neg hne]
        rw [e] at h
        exact h
    rw [v_152_52]
    simp only [z10, z00, not_true_eq_false, not_false_eq_true, false_implies, true_implies, implies_true, nI_1, Int32.add_zero, true_or, or_true, true_and, and_true, eI_eq, eL_eq, eR_eq, eV_eq, lg_cmp_ge, lg_cmp_le, lg_cmp_gt, lg_cmp_lt, lg_cmp_eq, v_152_53, v_152_56, v_152_58, v_152_59, v_152_62, v_152_63, v_152_66, v_152_67, v_152_68, v_152_69, v_152_70, v_152_71, v_152_74, v_152_75, v_152_78, v_152_79, v_152_80, v_152_81, v_152_82, v_152_84, v_152_85, v_152_88, v_152_89, v_152_90, v_152_92, v_152_94, c1, hM1.o, hM1.r4, hM1.r5, hM1.r28, hM1.r40, hM1.x89 (k := n) (by omega), hcn, e89, hcq, hM1.x72 (k := q.1) (by omega), hM1.x73 (k := q.1) (by omega), e72, e73, ixP, hM1.x99 (k := t) ht, hct, hph.1]
    cases acc with
    | nil =>
      have c2 : nI ([] : List Int32).length ≤ 0 := by decide
      refine ⟨fun _ => push (by simp), fun g => absurd c2 g⟩
    | cons a acc =>
      have c2 : ¬ nI (a :: acc).length ≤ 0 := nI_nle (by simp) (by omega)
      refine ⟨fun g => absurd g c2, fun _ => ?_⟩
      have ex : nI (400 * t + (a :: acc).length) - 1 = nI (400 * t + ((a :: acc).length - 1)) := by
        rw [show (1 : Int32) = nI 1 from rfl, pk_sub (by simp only [List.length_cons]; omega)]
        congr 1
      have hax2 : 400 * t + ((a :: acc).length - 1) < 8000 := by omega
      have hcx2 : (nI (400 * t + ((a :: acc).length - 1))).toNatClampNeg = 400 * t + ((a :: acc).length - 1) := nI_clamp (by omega)
      have hlast : (a :: acc)[(a :: acc).length - 1]? = (a :: acc).getLast? := by rw [List.getLast?_eq_getElem?]
      obtain ⟨z, hz⟩ : ∃ z, (a :: acc).getLast? = some z := ⟨_, List.getLast?_eq_some_getLast (by simp)⟩
      have e98 := hph.2 _ z (hlast.trans hz)
      simp only [z10, z00, not_true_eq_false, not_false_eq_true, false_implies, true_implies, implies_true, nI_1, Int32.add_zero, true_or, or_true, true_and, and_true, eI_eq, eL_eq, eR_eq, eV_eq, lg_cmp_ge, lg_cmp_le, lg_cmp_gt, lg_cmp_lt, lg_cmp_eq, v_152_97, v_152_98, v_152_101, v_152_104, v_152_105, v_152_106, v_152_108, v_152_109, v_152_110, v_152_111, v_152_112, v_152_114, v_152_117, v_152_145, v_152_148, hM1.o, hM1.r39, ix4, ex, hM1.x98 (k := _) hax2, hcx2, e98]
      refine ⟨fun g => push (by rw [hz]; simpa using g), fun g => ?_⟩
      have e : ddS (a :: acc) (nI (8 * v + c)) = a :: acc := by unfold ddS; rw [hz, if_pos (by rw [g])]
      rw [e] at h
      exact ih _ (a :: acc) _ _ _ _ (by omega) (by omega) hs hph h
def flT (σ : Sto) (t : Int32) (k : Nat) : Bool := decide (rT (rwM σ k) = t ∧ rF (rwM σ k) = 1)
theorem M_close_fails {b : B3} {σ : Sto} {Q : Po} {S : Nat} {t r : Int32} {u5 u6 u7 : AV} (hM : MB σ S) : ∀ (n k : Nat) (g : Bool), k + n = S → Ev b 152 203 [aR (some 68), aI t, aI r, aI (bI (g || anB (flT σ t) k n)), aI (nI S), u5, u6, u7] [] σ Q → Ev b 152 156 [aR (some 68), aI t, aI r, aI (bI g), aI (nI k), u5, u6, u7] [] σ Q := by
  intro n
  induction n with
  | zero =>
    intro k g hk h
    have hk' : k = S := by omega
    subst hk'
    have hle : nI k ≤ nI k := Int32.le_refl _
    rw [v_152_156]
    simp only [z10, z00, not_true_eq_false, not_false_eq_true, false_implies, true_implies, implies_true, nI_1, Int32.add_zero, true_or, or_true, true_and, and_true, eI_eq, eL_eq, eR_eq, eV_eq, lg_cmp_ge, lg_cmp_le, lg_cmp_gt, lg_cmp_lt, lg_cmp_eq, v_152_158, v_152_159, v_152_162, v_152_165, v_152_166, v_152_169, v_152_170, v_152_173, v_152_175, v_152_176, v_152_177, v_152_180, v_152_181, v_152_184, v_152_186, v_152_187, v_152_188, v_152_191, v_152_192, v_152_195, v_152_196, v_152_197, v_152_200, hM.o, hM.n, hle]
    simpa [anB] using h
  | succ n ih =>
    intro k g hk h
    have hS := hM.c
    have hle : ¬ nI S ≤ nI k := nI_ge (by omega) (by omega)
    have hc : (nI k).toNatClampNeg = k := nI_clamp (by omega)
    have fin : ∀ g', g' = (g || flT σ t k) → Ev b 152 156 [aR (some 68), aI t, aI r, aI (bI g'), aI (nI (k + 1)), u5, u6, u7] [] σ Q := by
      intro g' e
      refine ih (k + 1) g' (by omega) ?_
      rw [e, Bool.or_assoc]
      exact h
    rw [v_152_156]
    simp only [z10, z00, not_true_eq_false, not_false_eq_true, false_implies, true_implies, implies_true, nI_1, Int32.add_zero, true_or, or_true, true_and, and_true, eI_eq, eL_eq, eR_eq, eV_eq, lg_cmp_ge, lg_cmp_le, lg_cmp_gt, lg_cmp_lt, lg_cmp_eq, v_152_158, v_152_159, v_152_162, v_152_165, v_152_166, v_152_169, v_152_170, v_152_173, v_152_175, v_152_176, v_152_177, v_152_180, v_152_181, v_152_184, v_152_186, v_152_187, v_152_188, v_152_191, v_152_192, v_152_195, v_152_196, v_152_197, v_152_200, hM.o, hM.n, hle]
    cases g with
    | true =>
      simp only [bI, if_true, z10, z00, not_true_eq_false, not_false_eq_true, false_implies, true_implies, implies_true, true_and, and_true, true_or, or_true, false_and, and_false, false_or, or_false]
      exact fin true (by simp)
    | false =>
      simp only [bI, Bool.false_eq_true, if_false, hM.o, hM.r1, hM.r7, hM.x69 (k := k) (by omega), hM.x75 (k := k) (by omega), hc, z10, z00, not_true_eq_false, not_false_eq_true, false_implies, true_implies, implies_true, nI_1, Int32.add_zero, true_or, or_true, true_and, and_true, eI_eq, eL_eq, eR_eq, eV_eq, lg_cmp_ge, lg_cmp_le, lg_cmp_gt, lg_cmp_lt, lg_cmp_eq, v_152_158, v_152_159, v_152_162, v_152_165, v_152_166, v_152_169, v_152_170, v_152_173, v_152_175, v_152_176, v_152_177, v_152_180, v_152_181, v_152_184, v_152_186, v_152_187, v_152_188, v_152_191, v_152_192, v_152_195, v_152_196, v_152_197, v_152_200, z10, z00, not_true_eq_false, not_false_eq_true, false_implies, true_implies, implies_true, true_and, and_true, true_or, or_true, false_and, and_false, false_or, or_false]
      refine ⟨fun q => fin false ?_, fun q => ⟨fun q2 => fin false ?_, fun q2 => fin true ?_⟩⟩
      · simp [flT, rT_M, q]
      · simp [flT, rF_M, q2]
      · simp [flT, rT_M, rF_M, q, q2]
/-- how many of the same path are kept by quota; the latest that is kept -/
def qtS (same : Nat → Bool) (st kb : Nat → Int32) (o : Nat) (p : Nat × Option Nat) : Nat × Option Nat := if same o = true ∧ st o = 1 then (p.1 + (if kb o = 3 then 1 else 0), some o) else p
theorem M_close_quota {d : Nat} {σ : Sto} {Q : Po} {S C t : Nat} {r f : Int32} {pth : Nat → List Int32} (hM : MB σ S) (hC : gi σ 68 42 = nI C) (hC2 : C ≤ 20) (ht : t < 20) (hpl : ∀ o, (pth o).length ≤ 400) (hph : ∀ o, o < 20 → PH σ o (pth o)) : ∀ (l : List Nat) (c : Nat) (p : Nat × Option Nat) (u7 : AV), c + l.length = C → OD σ c l → (∀ u7, Ev (d + 1, 0, 0) 152 285 [aR (some 68), aI (nI t), aI r, aI f, aI (nI (l.foldl (fun p o => qtS (fun o => eqL (pth o) (pth t)) (gi σ 78) (gi σ 80) o p) p).1), aI (ofN (l.foldl (fun p o => qtS (fun o => eqL (pth o) (pth t)) (gi σ 78) (gi σ 80) o p) p).2), aI (nI C), u7] [] σ Q) → Ev (d + 1, 0, 0) 152 212 [aR (some 68), aI (nI t), aI r, aI f, aI (nI p.1), aI (ofN p.2), aI (nI c), u7] [] σ Q := by
  intro l
  induction l with
  | nil =>
    intro c p u7 hc ho h
    have hc' : c = C := by simpa using hc
    subst hc'
    have hle : nI c ≤ nI c := Int32.le_refl _
    rw [v_152_212]
    simp only [z10, z00, not_true_eq_false, not_false_eq_true, false_implies, true_implies, implies_true, nI_1, Int32.add_zero, true_or, or_true, true_and, and_true, eI_eq, eL_eq, eR_eq, eV_eq, lg_cmp_ge, lg_cmp_le, lg_cmp_gt, lg_cmp_lt, lg_cmp_eq, v_152_214, v_152_215, v_152_218, v_152_221, v_152_222, v_152_225, v_152_227, v_152_228, v_152_230, v_152_231, v_152_233, v_152_234, v_152_237, v_152_240, v_152_241, v_152_244, v_152_246, v_152_247, v_152_248, v_152_251, v_152_254, v_152_256, v_152_257, v_152_260, v_152_262, v_152_263, v_152_264, v_152_267, v_152_268, v_152_271, v_152_272, v_152_273, v_152_275, v_152_277, v_152_279, v_152_282, hM.o, hC, hle]
    exact h u7
  | cons o l ih =>
    intro c p u7 hc ho h
    simp only [List.length_cons] at hc
    obtain ⟨hot, e1, ho⟩ := ho
    have hle : ¬ nI C ≤ nI c := nI_ge (by omega) (by omega)
    have hcc : (nI c).toNatClampNeg = c := nI_clamp (by omega)
    have hco : (nI o).toNatClampNeg = o := nI_clamp (by omega)
    have fin : ∀ p' u7, p' = qtS (fun o => eqL (pth o) (pth t)) (gi σ 78) (gi σ 80) o p → Ev (d + 1, 0, 0) 152 212 [aR (some 68), aI (nI t), aI r, aI f, aI (nI p'.1), aI (ofN p'.2), aI (nI (c + 1)), u7] [] σ Q := by
      intro p' u7 e
      refine ih (c + 1) p' u7 (by omega) ho (fun u7 => ?_)
      rw [e]
      exact h u7
    rw [v_152_212]
    simp only [z10, z00, not_true_eq_false, not_false_eq_true, false_implies, true_implies, implies_true, nI_1, Int32.add_zero, true_or, or_true, true_and, and_true, eI_eq, eL_eq, eR_eq, eV_eq, lg_cmp_ge, lg_cmp_le, lg_cmp_gt, lg_cmp_lt, lg_cmp_eq, v_152_214, v_152_215, v_152_218, v_152_221, v_152_222, v_152_225, v_152_227, v_152_228, v_152_230, v_152_231, v_152_233, v_152_234, v_152_237, v_152_240, v_152_241, v_152_244, v_152_246, v_152_247, v_152_248, v_152_251, v_152_254, v_152_256, v_152_257, v_152_260, v_152_262, v_152_263, v_152_264, v_152_267, v_152_268, v_152_271, v_152_272, v_152_273, v_152_275, v_152_277, v_152_279, v_152_282, hM.o, hC, hle, hM.r41, hM.x100 (k := c) (by omega), hcc, e1]
    refine M_isSamePath hM hot ht (hph o hot) (hph t ht) (hpl o) (hpl t) ?_
    cases hsm : eqL (pth o) (pth t) with
    | false =>
      simp only [bI, Bool.false_eq_true, if_false, z10, z00, not_true_eq_false, not_false_eq_true, false_implies, true_implies, implies_true, true_and, and_true, true_or, or_true, false_and, and_false, false_or, or_false]
      exact fin p _ (by unfold qtS; rw [if_neg (by simp [hsm])])
    | true =>
      simp only [bI, if_true, hM.o, hM.r10, hM.r12, hM.x78 (k := o) hot, hM.x80 (k := o) hot, hco, z10, z00, not_true_eq_false, not_false_eq_true, false_implies, true_implies, implies_true, nI_1, Int32.add_zero, true_or, or_true, true_and, and_true, eI_eq, eL_eq, eR_eq, eV_eq, lg_cmp_ge, lg_cmp_le, lg_cmp_gt, lg_cmp_lt, lg_cmp_eq, v_152_240, v_152_241, v_152_244, v_152_246, v_152_247, v_152_248, v_152_251, v_152_254, v_152_256, v_152_257, v_152_260, v_152_262, v_152_263, v_152_264, v_152_267, v_152_268, v_152_271, v_152_272, v_152_273, v_152_275, v_152_277, v_152_279, v_152_282, z10, z00, not_true_eq_false, not_false_eq_true, false_implies, true_implies, implies_true, true_and, and_true, true_or, or_true, false_and, and_false, false_or, or_false]
      refine ⟨fun g => ?_, fun g => fin p _ (by unfold qtS; rw [if_neg (fun q => g q.2)])⟩
      refine ⟨fun g2 => ?_, fun g2 => ?_⟩
      · exact fin (p.1, some o) _ (by unfold qtS; rw [if_pos ⟨hsm, g⟩, if_neg g2]; rfl)
      · exact fin (p.1 + 1, some o) _ (by unfold qtS; rw [if_pos ⟨hsm, g⟩, if_pos g2])
