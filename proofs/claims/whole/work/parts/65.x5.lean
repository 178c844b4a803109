/-! the class: going down a way -/
theorem bsL_mem {p : Nat → Bool} {bt : Nat → Nat → Bool} : ∀ (l : List Nat) (b : Option Nat) (j : Nat), bsL p bt l b = some j → (j ∈ l ∧ p j = true) ∨ b = some j
  | [], b, j, h => Or.inr h
  | a :: l, b, j, h => by
    rw [bsL] at h
    rcases bsL_mem l _ j h with q | q
    · exact Or.inl ⟨List.mem_cons_of_mem _ q.1, q.2⟩
    · by_cases hp : p a = true
      · rw [if_pos hp] at q
        cases b with
        | none => cases q; exact Or.inl ⟨List.mem_cons_self .., hp⟩
        | some i =>
          simp only [pk2] at q
          split at q
          · cases q; exact Or.inl ⟨List.mem_cons_self .., hp⟩
          · exact Or.inr q
      · rw [if_neg hp] at q
        exact Or.inr q
theorem nxX_mem {σ : Sto} {l : List Nat} {mv : Nat → Int64} {x : Nat} {c f : Int64} {k : Nat} (h : nxX σ l mv x c f = some k) : k ∈ l ∧ elX σ l mv (gi σ x 0) c f k = true := by
  rcases bsL_mem _ _ _ h with q | q
  · exact q
  · cases q
theorem mxL_eq (a b : Int64) : (if a < b then b else a) = mxL a b := by
  unfold mxL
  by_cases h1 : a < b
  · rw [if_pos h1, if_neg (fun q => Int64.lt_irrefl (Int64.lt_trans h1 q))]
  · rw [if_neg h1]
    by_cases h2 : b < a
    · rw [if_pos h2]
    · rw [if_neg h2]
      exact Int64.le_antisymm (Int64.not_lt.mp h2) (Int64.not_lt.mp h1)
theorem ptX0_of {w : Nat} {σ σ' : Sto} (hw : w + 5 < 103) (h : scA w σ σ') {q : Nat × Int64 × Int64} (hq : 103 ≤ q.1) : ptX0 σ' q = ptX0 σ q := by
  unfold ptX0
  rw [h.rw hw hq, h.2.2.1 q.1 0 (by omega) (by omega) (by omega)]
theorem X_walk_all {σ : Sto} {w T : Nat} {l : List Nat} {mv : Nat → Int64} (hw : w + 5 < 28) (hw0 : 0 < w) (hT : 28 ≤ T) (hWB : WB σ w) (hmv : ∀ v, v < 6 → gl σ (w + 5) v = mv v) (hB : mvB mv) (hTr : Tr σ T l) (hS : SET σ l) (hR : ∀ a, a ∈ l → ∃ t, okR (rwX σ t a)) : ∀ (n : Nat),
    (∀ (d x : Nat) (c0 hg f : Int64) (dep turn : Nat) (σ1 : Sto) (ps : List Pt) (lw : List (Nat × Int64 × Int64)) (K : Sto → Prop) (u11 u12 u13 : AV), wkO (nxX σ l mv) (fun a => beR mv (rwX σ 0 a)) (fun a => enR mv (rwX σ 0 a)) n x hg f = some lw → x ∈ l → dep + n ≤ 31 → turn + n ≤ 31 → ps.length + lw.length ≤ 60 → scA w σ σ1 → WY σ1 w ps → (∀ σ2, scA w σ σ2 → WY σ2 w (ps ++ lw.map (ptX0 σ)) → K σ2) → Ev (d + n + 3, 0, 0) 52 14 [aR (some w), aR (some T), aR (some x), aL c0, aU, aL f, aU, aI (nI dep), aL hg, aU, aI (nI turn), u11, u12, u13] [] σ1 (eV K)) ∧
    (∀ (d x : Nat) (c f : Int64) (dep : Nat) (σ1 : Sto) (ps : List Pt) (lw : List (Nat × Int64 × Int64)) (K : Sto → Prop), wkO (nxX σ l mv) (fun a => beR mv (rwX σ 0 a)) (fun a => enR mv (rwX σ 0 a)) n x c f = some lw → x ∈ l → dep + n ≤ 31 → ps.length + lw.length ≤ 60 → scA w σ σ1 → WY σ1 w ps → (∀ σ2, scA w σ σ2 → WY σ2 w (ps ++ lw.map (ptX0 σ)) → K σ2) → CV (d + n + 3) 52 [aR (some w), aR (some T), aR (some x), aL c, aL f, aI (nI dep)] σ1 K) := by
  have hw103 : w + 5 < 103 := by omega
  have hge : ∀ a, a ∈ l → 103 ≤ a := fun a ha => (lkt_mem hTr.2.2.2.1 a ha).1
  intro n
  induction n with
  | zero =>
    refine ⟨fun d x c0 hg f dep turn σ1 ps lw K u11 u12 u13 h => (by cases h), fun d x c f dep σ1 ps lw K h => (by cases h)⟩
  | succ n ih =>
    obtain ⟨ihL, ihF⟩ := ih
    have L : ∀ (d x : Nat) (c0 hg f : Int64) (dep turn : Nat) (σ1 : Sto) (ps : List Pt) (lw : List (Nat × Int64 × Int64)) (K : Sto → Prop) (u11 u12 u13 : AV), wkO (nxX σ l mv) (fun a => beR mv (rwX σ 0 a)) (fun a => enR mv (rwX σ 0 a)) (n + 1) x hg f = some lw → x ∈ l → dep + (n + 1) ≤ 31 → turn + (n + 1) ≤ 31 → ps.length + lw.length ≤ 60 → scA w σ σ1 → WY σ1 w ps → (∀ σ2, scA w σ σ2 → WY σ2 w (ps ++ lw.map (ptX0 σ)) → K σ2) → Ev (d + (n + 1) + 3, 0, 0) 52 14 [aR (some w), aR (some T), aR (some x), aL c0, aU, aL f, aU, aI (nI dep), aL hg, aU, aI (nI turn), u11, u12, u13] [] σ1 (eV K) := by
      intro d x c0 hg f dep turn σ1 ps lw K u11 u12 u13 hwk hx hdep hturn hlen hs hY h
      have hx3 := hge x hx
      have hW1 := hs.wb hw0 hWB
      have hTr1 := hs.tr hw103 (Or.inr (show w + 5 < T by omega)) hTr
      have hS1 := hs.set hw103 hge hS
      have hR1 : ∀ a, a ∈ l → ∃ t, okR (rwX σ1 t a) := fun a ha => by
        obtain ⟨t, ht⟩ := hR a ha
        exact ⟨t, by rw [hs.rw hw103 (hge a ha)]; exact ht⟩
      have hm1 : ∀ v, v < 6 → gl σ1 (w + 5) v = mv v := fun v hv => by rw [hs.2.2.2 (w + 5) (by omega) (by omega)]; exact hmv v hv
      have hxO := hTr1.ok x hx
      have c30 : ¬ (30 : Int32) < nI turn := nI_nlt (a := 30) (b := turn) (by omega) (by omega)
      unfold wkO at hwk
      rw [v_52_14]
      simp only [z10, z00, not_true_eq_false, not_false_eq_true, false_implies, true_implies, implies_true, nI_1, Int32.add_zero, true_or, or_true, true_and, and_true, eI_eq, eL_eq, eR_eq, eV_eq, lg_cmp_ge, lg_cmp_le, lg_cmp_gt, lg_cmp_lt, lg_cmp_eq, v_52_16, v_52_18, v_52_21, v_52_23, v_52_25, v_52_26, v_52_29, v_52_30, v_52_31, v_52_32, v_52_34, v_52_36, v_52_115, c30, hW1.1]
      by_cases hcf : hg ≤ f
      · rw [if_pos hcf] at hwk
        cases hwk
        refine ⟨fun _ => h σ1 hs (by simpa using hY), fun q => absurd hcf q⟩
      · rw [if_neg hcf] at hwk
        refine ⟨fun q => absurd q hcf, fun _ => ?_⟩
        refine X_latestKid hW1 hm1 hB hTr1 hS1 hR1 hxO ?_
        rw [hs.nx hw103 hge hx3]
        cases hnx : nxX σ l mv x hg f with
        | none =>
          rw [hnx] at hwk
          cases hwk
          simp only [z10, z00, not_true_eq_false, not_false_eq_true, false_implies, true_implies, implies_true, nI_1, Int32.add_zero, true_or, or_true, true_and, and_true, eI_eq, eL_eq, eR_eq, eV_eq, lg_cmp_ge, lg_cmp_le, lg_cmp_gt, lg_cmp_lt, lg_cmp_eq, v_52_39, v_52_41, v_52_43, v_52_46, v_52_47, v_52_48, v_52_50, v_52_52, v_52_55, hW1.1, z10, z00, not_true_eq_false, not_false_eq_true, false_implies, true_implies, implies_true, true_and, and_true, true_or, or_true, false_and, and_false, false_or, or_false]
          refine X_add hw103 hW1 hxO hx3 (hR1 x hx) hY (by simp only [List.length_cons, List.length_nil] at hlen; omega) (fun σ2 hs2 hY2 => ?_)
          refine h σ2 (hs.trans hs2) ?_
          rw [ptX0_of hw103 hs hx3] at hY2
          exact hY2
        | some k =>
          rw [hnx] at hwk
          simp only at hwk
          obtain ⟨hk, hel⟩ := nxX_mem hnx
          have hk3 := hge k hk
          have hel2 : elR mv hg f (rwX σ 0 k) = true := by
            unfold elX at hel
            exact (Bool.and_eq_true_iff.mp hel).2
          unfold elR at hel2
          obtain ⟨q1, q2, q3, q4⟩ := of_decide_eq_true hel2
          generalize hl1 : wkO (nxX σ l mv) (fun a => beR mv (rwX σ 0 a)) (fun a => enR mv (rwX σ 0 a)) n k (enR mv (rwX σ 0 k)) (mxL (beR mv (rwX σ 0 k)) f) = o1 at hwk
          generalize hl2 : wkO (nxX σ l mv) (fun a => beR mv (rwX σ 0 a)) (fun a => enR mv (rwX σ 0 a)) n x (mxL (beR mv (rwX σ 0 k)) f) f = o2 at hwk
          cases o1 with
          | none => cases hwk
          | some l1 =>
            cases o2 with
            | none => cases hwk
            | some l2 =>
              simp only [Option.some.injEq] at hwk
              have rest : ∀ (σ3 : Sto) (ps1 : List Pt), scA w σ σ3 → WY σ3 w ps1 → ps1 ++ ((l1.map (ptX0 σ)) ++ (l2.map (ptX0 σ))) = ps ++ lw.map (ptX0 σ) → Ev (d + (n + 1) + 3, 0, 0) 52 81 [aR (some w), aR (some T), aR (some x), aL c0, aU, aL f, aU, aI (nI dep), aL hg, aU, aI (nI turn), aR (some k), aL (enR mv (rwX σ 0 k)), aU] [] σ3 (eV K) := by
                intro σ3 ps1 hs3 hY3 hps
                have hW3 := hs3.wb hw0 hWB
                have hTr3 := hs3.tr hw103 (Or.inr (show w + 5 < T by omega)) hTr
                have hm3 : ∀ v, v < 6 → gl σ3 (w + 5) v = mv v := fun v hv => by rw [hs3.2.2.2 (w + 5) (by omega) (by omega)]; exact hmv v hv
                have hv3 : okV (rwX σ3 0 k) := by
                  obtain ⟨t, ht⟩ := hR k hk
                  rw [hs3.rw hw103 hk3]
                  exact ht.v
                have hll : ps1.length + (l1.length + l2.length) = ps.length + lw.length := by
                  have := congrArg List.length hps
                  simpa using this
                simp only [z10, z00, not_true_eq_false, not_false_eq_true, false_implies, true_implies, implies_true, nI_1, Int32.add_zero, true_or, or_true, true_and, and_true, eI_eq, eL_eq, eR_eq, eV_eq, lg_cmp_ge, lg_cmp_le, lg_cmp_gt, lg_cmp_lt, lg_cmp_eq, v_52_81, v_52_83, v_52_84, v_52_86, hW3.1]
                refine X_movedBegin hW3 hm3 (hTr3.ok k hk) hv3 ?_
                rw [hs3.rw hw103 hk3]
                simp only [z10, z00, not_true_eq_false, not_false_eq_true, false_implies, true_implies, implies_true, nI_1, Int32.add_zero, true_or, or_true, true_and, and_true, eI_eq, eL_eq, eR_eq, eV_eq, lg_cmp_ge, lg_cmp_le, lg_cmp_gt, lg_cmp_lt, lg_cmp_eq, v_52_89, v_52_92, v_52_94, v_52_95, v_52_96, v_52_98, v_52_100, v_52_102, v_52_104, v_52_105, v_52_106, mxL_eq, nI_1]
                have hd1 : d + (n + 1) + 2 = (d + 0) + n + 3 := by omega
                rw [hd1]
                refine ihF _ k _ _ (dep + 1) σ3 ps1 l1 _ hl1 hk (by omega) (by omega) hs3 hY3 (fun σ4 hs4 hY4 => ?_)
                simp only [z10, z00, not_true_eq_false, not_false_eq_true, false_implies, true_implies, implies_true, nI_1, Int32.add_zero, true_or, or_true, true_and, and_true, eI_eq, eL_eq, eR_eq, eV_eq, lg_cmp_ge, lg_cmp_le, lg_cmp_gt, lg_cmp_lt, lg_cmp_eq, v_52_109, v_52_112, nI_1]
                have hd2 : d + 0 + n + 3 + 1 = (d + 1) + n + 3 := by omega
                rw [hd2]
                refine ihL _ x c0 _ f dep (turn + 1) σ4 (ps1 ++ l1.map (ptX0 σ)) l2 K _ _ _ hl2 hx (by omega) (by omega) (by simp only [List.length_append, List.length_map]; omega) hs4 hY4 (fun σ5 hs5 hY5 => ?_)
                refine h σ5 hs5 ?_
                rw [← hps, ← List.append_assoc]
                exact hY5
              have hv1 : okV (rwX σ1 0 k) := by
                obtain ⟨t, ht⟩ := hR k hk
                rw [hs.rw hw103 hk3]
                exact ht.v
              simp only [z10, z00, not_true_eq_false, not_false_eq_true, false_implies, true_implies, implies_true, nI_1, Int32.add_zero, true_or, or_true, true_and, and_true, eI_eq, eL_eq, eR_eq, eV_eq, lg_cmp_ge, lg_cmp_le, lg_cmp_gt, lg_cmp_lt, lg_cmp_eq, v_52_39, v_52_41, v_52_43, v_52_56, v_52_57, v_52_59, reduceCtorEq, hW1.1, z10, z00, not_true_eq_false, not_false_eq_true, false_implies, true_implies, implies_true, true_and, and_true, true_or, or_true, false_and, and_false, false_or, or_false]
              refine X_movedEnd hW1 hm1 (hTr1.ok k hk) hv1 ?_
              rw [hs.rw hw103 hk3]
              simp only [z10, z00, not_true_eq_false, not_false_eq_true, false_implies, true_implies, implies_true, nI_1, Int32.add_zero, true_or, or_true, true_and, and_true, eI_eq, eL_eq, eR_eq, eV_eq, lg_cmp_ge, lg_cmp_le, lg_cmp_gt, lg_cmp_lt, lg_cmp_eq, v_52_62, v_52_64, v_52_66, v_52_68, v_52_69, v_52_72, v_52_73, v_52_74, v_52_76, v_52_78, hW1.1]
              refine ⟨fun g => rest σ1 ps hs hY ?_, fun g => ?_⟩
              · rw [← hwk, if_neg (Int64.not_lt.mpr g), List.nil_append, List.map_append]
              · have hlp : ps.length < 60 := by
                  rw [← hwk, if_pos (Int64.not_le.mp g)] at hlen
                  simp only [List.length_append, List.length_cons, List.length_nil] at hlen
                  omega
                refine X_add hw103 hW1 hxO hx3 (hR1 x hx) hY hlp (fun σ2 hs2 hY2 => ?_)
                rw [ptX0_of hw103 hs hx3] at hY2
                refine rest σ2 _ (hs.trans hs2) hY2 ?_
                rw [← hwk, if_pos (Int64.not_le.mp g), List.map_append, List.map_append, List.append_assoc]
                rfl
    refine ⟨L, fun d x c f dep σ1 ps lw K hwk hx hdep hlen hs hY h => ?_⟩
    have c30 : nI dep ≤ (30 : Int32) := nI_le (b := 30) (a := dep) (by omega) (by omega)
    refine CV_of ?_
    show Ev (d + (n + 1) + 3, 0, 0) 52 0 [aR (some w), aR (some T), aR (some x), aL c, aU, aL f, aU, aI (nI dep), aU, aU, aU, aU, aU, aU] [] σ1 _
    simp only [z10, z00, not_true_eq_false, not_false_eq_true, false_implies, true_implies, implies_true, nI_1, Int32.add_zero, true_or, or_true, true_and, and_true, eI_eq, eL_eq, eR_eq, eV_eq, lg_cmp_ge, lg_cmp_le, lg_cmp_gt, lg_cmp_lt, lg_cmp_eq, v_52_0, v_52_2, v_52_4, v_52_7, v_52_8, v_52_9, v_52_11, v_52_12, c30]
    rw [← nI_0]
    exact L d x c c f dep 0 σ1 ps lw K aU aU aU hwk hx hdep (by omega) hlen hs hY h
/-- nothing but a way is written -/
def scF (w : Nat) (σ σ' : Sto) : Prop := sn σ' = sn σ ∧ gr σ' = gr σ ∧ (∀ a k, ¬ (a = w ∧ k = 4) → a ≠ w + 1 → a ≠ w + 2 → gi σ' a k = gi σ a k) ∧ (∀ a, a ≠ w + 3 → a ≠ w + 4 → a ≠ w + 5 → gl σ' a = gl σ a)
theorem scF.rw {w : Nat} {σ σ' : Sto} (hw : w + 5 < 103) (h : scF w σ σ') {t : Int32} {a : Nat} (ha : 103 ≤ a) : rwX σ' t a = rwX σ t a := by
  unfold rwX
  rw [h.2.2.1 a 0 (by omega) (by omega) (by omega), h.2.2.1 a 1 (by omega) (by omega) (by omega), h.2.2.1 a 2 (by omega) (by omega) (by omega), h.2.2.1 a 3 (by omega) (by omega) (by omega), h.2.2.1 a 4 (by omega) (by omega) (by omega), h.2.2.1 a 5 (by omega) (by omega) (by omega), h.2.2.2 a (by omega) (by omega) (by omega)]
theorem scF.u {w : Nat} {σ σ' : Sto} (hw : w + 5 < 103) (h : scF w σ σ') {l : List Nat} (hl : ∀ a, a ∈ l → 103 ≤ a) : uX σ' l = uX σ l := uX_of (fun a ha => ⟨h.2.2.1 a 0 (by omega) (by omega) (by omega), h.2.2.1 a 1 (by omega) (by omega) (by omega)⟩) hl
theorem scF.set {w : Nat} {σ σ' : Sto} (hw : w + 5 < 103) (h : scF w σ σ') {l : List Nat} (hl : ∀ a, a ∈ l → 103 ≤ a) (hS : SET σ l) : SET σ' l := fun a ha => by
  have := hl a ha
  rw [h.u hw hl, h.2.1, h.2.2.1 a 11 (by omega) (by omega) (by omega)]
  exact hS a ha
theorem scF.tr {w : Nat} {σ σ' : Sto} (hw : w + 5 < 103) (h : scF w σ σ') {T : Nat} {l : List Nat} (hT : T < w ∨ w + 5 < T) (hTr : Tr σ T l) : Tr σ' T l := by
  obtain ⟨a1, a2, a3, a4, a5, a6⟩ := hTr
  refine ⟨okO_of h.1 a1, a2, by rw [h.2.1]; exact a3, lkt_of (Nat.le_of_eq h.1.symm) (fun a _ => by rw [h.2.1]) a4, a5, ?_⟩
  rw [h.2.2.1 T 2 (by omega) (by omega) (by omega)]
  exact a6.imp (fun q => q) (fun q => ⟨q.1, h.set hw (fun a ha => (lkt_mem a4 a ha).1) q.2⟩)
theorem scF.nx {w : Nat} {σ σ' : Sto} (hw : w + 5 < 103) (h : scF w σ σ') {l : List Nat} (hl : ∀ a, a ∈ l → 103 ≤ a) {mv : Nat → Int64} {x : Nat} (hx : 103 ≤ x) {c f : Int64} : nxX σ' l mv x c f = nxX σ l mv x c f := by
  unfold nxX
  rw [h.2.2.1 x 0 (by omega) (by omega) (by omega)]
  refine bsL_congr (fun a => 103 ≤ a) hl (fun a e => by cases e) (fun a ha => ?_) (fun a b ha hb => ?_)
  · unfold elX kiX
    rw [h.u hw hl, h.rw hw ha, h.2.2.1 a 1 (by omega) (by omega) (by omega)]
  · unfold btX
    rw [h.rw hw ha, h.rw hw hb]
def wkX (σ : Sto) (l : List Nat) (mv : Nat → Int64) (n x : Nat) : Option (List (Nat × Int64 × Int64)) := wkO (nxX σ l mv) (fun a => beR mv (rwX σ 0 a)) (fun a => enR mv (rwX σ 0 a)) n x (enR mv (rwX σ 0 x)) (beR mv (rwX σ 0 x))
theorem wkO_congr {α : Type} {nx nx' : α → Int64 → Int64 → Option α} {B B' E E' : α → Int64} (P : α → Prop) (h1 : ∀ x c f, P x → nx x c f = nx' x c f) (h2 : ∀ x, P x → B x = B' x) (h3 : ∀ x, P x → E x = E' x) (h4 : ∀ x c f k, P x → nx x c f = some k → P k) : ∀ (n : Nat) (x : α) (c f : Int64), P x → wkO nx B E n x c f = wkO nx' B' E' n x c f := by
  intro n
  induction n with
  | zero => intro x c f _; rfl
  | succ n ih =>
    intro x c f hx
    unfold wkO
    rw [← h1 x c f hx]
    cases hk : nx x c f with
    | none => rfl
    | some k =>
      have hPk := h4 x c f k hx hk
      simp only
      rw [h3 k hPk, h2 k hPk, ih k _ _ hPk, ih x _ _ hx]
theorem wkO_in {α : Type} {nx : α → Int64 → Int64 → Option α} {B E : α → Int64} {P : α → Prop} (hnx : ∀ x c f k, P x → nx x c f = some k → P k) : ∀ (n : Nat) (x : α) (c f : Int64) (l : List (α × Int64 × Int64)), P x → wkO nx B E n x c f = some l → ∀ q, q ∈ l → P q.1 := by
  intro n
  induction n with
  | zero => intro x c f l hx h; cases h
  | succ n ih =>
    intro x c f l hx h q hq
    unfold wkO at h
    split at h
    · cases h; cases hq
    · split at h
      · cases h
        simp only [List.mem_singleton] at hq
        rw [hq]; exact hx
      · rename_i k hk
        split at h
        · rename_i l1 l2 h1 h2
          cases h
          simp only [List.mem_append] at hq
          rcases hq with hq | hq | hq
          · split at hq
            · simp only [List.mem_singleton] at hq
              rw [hq]; exact hx
            · cases hq
          · exact ih _ _ _ _ (hnx _ _ _ _ hx hk) h1 q hq
          · exact ih _ _ _ _ hx h2 q hq
        · cases h
theorem X_follow {d : Nat} {σ : Sto} {K : Sto → Prop} {w T x : Nat} {l : List Nat} {lw : List (Nat × Int64 × Int64)} (hw : w = 14 ∨ w = 20) (hT : 28 ≤ T) (hX : XB σ) (hB : mvB (gl σ 10)) (hTr : Tr σ T l) (hS : SET σ l) (hR : ∀ a, a ∈ l → ∃ t, okR (rwX σ t a)) (hx : x ∈ l) (hwk : wkX σ l (gl σ 10) 30 x = some lw) (hlw : lw.length ≤ 60) (h : ∀ σ2, scF w σ σ2 → WY σ2 w (lw.map (ptX0 σ)) → K σ2) : CV (d + 34) 51 [aR (some w), aR (some T), aR (some x), aR (some 10)] σ K := by
  have hw28 : w + 5 < 28 := by omega
  have hw103 : w + 5 < 103 := by omega
  have hge : ∀ a, a ∈ l → 103 ≤ a := fun a ha => (lkt_mem hTr.2.2.2.1 a ha).1
  have hx3 := hge x hx
  have hWB : WB σ w := by
    rcases hw with e | e
    · subst e; exact hX.w14
    · subst e; exact hX.w20
  have kd10 : kd 10 = (8, 6) := by decide
  have kdw : kd (w + 5) = (8, 6) := by
    rcases hw with e | e
    · subst e; decide
    · subst e; decide
  have hsn := hX.s
  have s1 : 10 < sn σ := by omega
  have s2 : w + 5 < sn σ := by omega
  have c00 : (0 : Int32).toNatClampNeg = 0 := by decide
  have c06 : (6 : Int32).toNatClampNeg = 6 := by decide
  have n00 : ¬ (0 : Int32) < 0 := by decide
  have n06 : ¬ (6 : Int32) < 0 := by decide
  have le6 : 0 + 6 ≤ 6 := by decide
  generalize hτ : si (slr σ (w + 5) (va_cpy (gl σ 10) (gl σ (w + 5)) 0 0 6)) w 4 0 = τ
  have hgl : ∀ a, a ≠ w + 5 → gl τ a = gl σ a := fun a ha => by
    subst hτ
    exact (same_slr (σ := σ) ha).2.1
  have hmv : ∀ v, v < 6 → gl τ (w + 5) v = gl σ 10 v := fun v hv => by
    subst hτ
    have : gl (si (slr σ (w + 5) (va_cpy (gl σ 10) (gl σ (w + 5)) 0 0 6)) w 4 0) (w + 5) = va_cpy (gl σ 10) (gl σ (w + 5)) 0 0 6 := gl_slr _ _ _
    rw [this]
    unfold va_cpy
    rw [if_pos (by omega)]
    simp
  have hsF : scF w σ τ := by
    refine ⟨by subst hτ; rfl, by subst hτ; rfl, fun a k h1 h2 h3 => ?_, fun a h1 h2 h3 => hgl a h3⟩
    subst hτ
    rw [gi_si_k, if_neg h1]
    rfl
  have hWτ : WB τ w := WB_of (by omega) hsF.1 (by rw [hsF.2.1]) hWB
  have hTrτ := hsF.tr hw103 (Or.inr (show w + 5 < T by omega)) hTr
  have hSτ := hsF.set hw103 hge hS
  have hRτ : ∀ a, a ∈ l → ∃ t, okR (rwX τ t a) := fun a ha => by
    obtain ⟨t, ht⟩ := hR a ha
    exact ⟨t, by rw [hsF.rw hw103 (hge a ha)]; exact ht⟩
  have hYτ : WY τ w [] := ⟨by subst hτ; rw [gi_si_k, if_pos ⟨rfl, rfl⟩]; rfl, fun i q e => by cases e⟩
  have hv : okV (rwX τ 0 x) := by
    obtain ⟨t, ht⟩ := hRτ x hx
    exact ht.v
  have hwkτ : wkO (nxX τ l (gl σ 10)) (fun a => beR (gl σ 10) (rwX τ 0 a)) (fun a => enR (gl σ 10) (rwX τ 0 a)) 30 x (enR (gl σ 10) (rwX σ 0 x)) (beR (gl σ 10) (rwX σ 0 x)) = some lw := by
    rw [← hwk]
    exact wkO_congr (fun a => a ∈ l) (fun y c f hy => hsF.nx hw103 hge (hge y hy)) (fun y hy => by rw [hsF.rw hw103 (hge y hy)]) (fun y hy => by rw [hsF.rw hw103 (hge y hy)]) (fun y c f k _ e => (nxX_mem e).1) 30 x _ _ hx
  refine CV_of ?_
  show Ev (d + 34, 0, 0) 51 0 [aR (some w), aR (some T), aR (some x), aR (some 10)] [] σ _
  simp only [z10, z00, not_true_eq_false, not_false_eq_true, false_implies, true_implies, implies_true, nI_1, Int32.add_zero, true_or, or_true, true_and, and_true, eI_eq, eL_eq, eR_eq, eV_eq, lg_cmp_ge, lg_cmp_le, lg_cmp_gt, lg_cmp_lt, lg_cmp_eq, v_51_0, v_51_1, v_51_2, v_51_3, v_51_6, v_51_7, hWB.1, hWB.2.2.2.2.2.1]
  rw [v_51_9]
  simp only [z10, z00, not_true_eq_false, not_false_eq_true, false_implies, true_implies, implies_true, nI_1, Int32.add_zero, true_or, or_true, true_and, and_true, eI_eq, eL_eq, eR_eq, eV_eq, lg_cmp_ge, lg_cmp_le, lg_cmp_gt, lg_cmp_lt, lg_cmp_eq, v_51_12, v_51_13, v_51_14, v_51_17, v_51_18, v_51_19, v_51_20, v_51_21, v_51_22, kd10, kdw, s1, s2, c00, c06, n00, n06, le6, hτ, z10, z00, not_true_eq_false, not_false_eq_true, false_implies, true_implies, implies_true, true_and, and_true, true_or, or_true, false_and, and_false, false_or, or_false]
  have hWs : okO (slr σ (w + 5) (va_cpy (gl σ 10) (gl σ (w + 5)) 0 0 6)) w 4 := hWB.1
  refine ⟨hWs, hWτ.1, ?_⟩
  refine X_movedEnd hWτ hmv (hTrτ.ok x hx) hv ?_
  simp only [z10, z00, not_true_eq_false, not_false_eq_true, false_implies, true_implies, implies_true, nI_1, Int32.add_zero, true_or, or_true, true_and, and_true, eI_eq, eL_eq, eR_eq, eV_eq, lg_cmp_ge, lg_cmp_le, lg_cmp_gt, lg_cmp_lt, lg_cmp_eq, v_51_25, v_51_26, v_51_27, hWτ.1]
  refine X_movedBegin hWτ hmv (hTrτ.ok x hx) hv ?_
  rw [hsF.rw hw103 hx3]
  simp only [z10, z00, not_true_eq_false, not_false_eq_true, false_implies, true_implies, implies_true, nI_1, Int32.add_zero, true_or, or_true, true_and, and_true, eI_eq, eL_eq, eR_eq, eV_eq, lg_cmp_ge, lg_cmp_le, lg_cmp_gt, lg_cmp_lt, lg_cmp_eq, v_51_30, v_51_31]
  have e1 : (1 : Int32) = nI 1 := rfl
  rw [e1]
  have hd : d + 33 = d + 30 + 3 := by omega
  rw [hd]
  refine (X_walk_all hw28 (by omega) hT hWτ hmv hB hTrτ hSτ hRτ 30).2 d x _ _ 1 τ [] lw _ hwkτ hx (by omega) (by simpa using hlw) (scA.rfl w τ) hYτ (fun σ2 hs2 hY2 => ?_)
  simp only [v_51_34, eV_eq]
  refine h σ2 ⟨hs2.1.trans hsF.1, hs2.2.1.trans hsF.2.1, fun a k h1 h2 h3 => (hs2.2.2.1 a k h1 h2 h3).trans (hsF.2.2.1 a k h1 h2 h3), fun a h1 h2 h3 => (hs2.2.2.2 a h1 h2).trans (hsF.2.2.2 a h1 h2 h3)⟩ ?_
  have em : lw.map (ptX0 τ) = lw.map (ptX0 σ) := by
    refine List.map_congr_left (fun q hq => ?_)
    have hql : q.1 ∈ l := by
      have := wkO_in (P := fun a => a ∈ l) (fun y c f k _ e => (nxX_mem e).1) 30 x _ _ lw hx hwk q hq
      exact this
    unfold ptX0
    rw [hsF.rw hw103 (hge _ hql), hsF.2.2.1 q.1 0 (by have := hge _ hql; omega) (by have := hge _ hql; omega) (by have := hge _ hql; omega)]
  rw [← em]
  simpa using hY2
def lnS (x : Int32) : List Pt → Int64 → Int64
  | [], a => a
  | q :: l, a => lnS x l (a + if q.1 = x then q.2.2.2 - q.2.2.1 else 0)
theorem X_lengthOf_loop {b : B3} {σ : Sto} {K : Int64 → Sto → Prop} {w : Nat} {x : Int32} {ps : List Pt} (hW : WB σ w) (hY : WY σ w ps) (hl : ps.length ≤ 60) : ∀ (l : List Pt) (p : Nat) (a : Int64), ps.drop p = l → p ≤ ps.length → K (lnS x l a) σ → Ev b 58 5 [aR (some w), aI x, aL a, aU, aI (nI p)] [] σ (eL K) := by
  intro l
  induction l with
  | nil =>
    intro p a hd hpl h
    have hp' : p = ps.length := by
      have := congrArg List.length hd
      simp only [List.length_drop, List.length_nil] at this
      omega
    subst hp'
    have hle : nI ps.length ≤ nI ps.length := Int32.le_refl _
    rw [v_58_5]
    simp only [z10, z00, not_true_eq_false, not_false_eq_true, false_implies, true_implies, implies_true, nI_1, Int32.add_zero, true_or, or_true, true_and, and_true, eI_eq, eL_eq, eR_eq, eV_eq, lg_cmp_ge, lg_cmp_le, lg_cmp_gt, lg_cmp_lt, lg_cmp_eq, v_58_7, v_58_8, v_58_11, v_58_14, v_58_15, v_58_16, v_58_19, v_58_21, v_58_22, v_58_23, v_58_26, v_58_27, v_58_30, v_58_32, v_58_33, v_58_34, v_58_37, v_58_39, v_58_40, v_58_41, v_58_44, v_58_45, v_58_46, v_58_47, v_58_50, v_58_53, v_58_54, hW.1, hY.1, hle]
    exact h
  | cons q l ih =>
    intro p a hd hpl h
    have hlt : p < ps.length := by
      have := congrArg List.length hd
      simp only [List.length_drop, List.length_cons] at this
      omega
    have hq : ps[p]? = some q := by
      have := congrArg (fun z => z[0]?) hd
      simpa [List.getElem?_drop] using this
    have hd' : ps.drop (p + 1) = l := by
      have := congrArg List.tail hd
      simpa [List.tail_drop] using this
    obtain ⟨p1, p2, p3, p4⟩ := hY.2 _ _ hq
    have hle : ¬ nI ps.length ≤ nI p := nI_ge (by omega) (by omega)
    have hc : (nI p).toNatClampNeg = p := nI_clamp (by omega)
    obtain ⟨w1, w2, w3, w4, w5, -, w7, -⟩ := hW
    obtain ⟨b1, b2, b3, b4, b5, b6⟩ := w7 p (by omega)
    rw [v_58_5]
    simp only [z10, z00, not_true_eq_false, not_false_eq_true, false_implies, true_implies, implies_true, nI_1, Int32.add_zero, true_or, or_true, true_and, and_true, eI_eq, eL_eq, eR_eq, eV_eq, lg_cmp_ge, lg_cmp_le, lg_cmp_gt, lg_cmp_lt, lg_cmp_eq, v_58_7, v_58_8, v_58_11, v_58_14, v_58_15, v_58_16, v_58_19, v_58_21, v_58_22, v_58_23, v_58_26, v_58_27, v_58_30, v_58_32, v_58_33, v_58_34, v_58_37, v_58_39, v_58_40, v_58_41, v_58_44, v_58_45, v_58_46, v_58_47, v_58_50, v_58_53, v_58_54, w1, w2, w4, w5, hY.1, hle, b1, b5, b6, hc, p1, p3, p4]
    simp only [lnS] at h
    exact ⟨fun g => ih (p + 1) _ hd' (by omega) (by rw [if_neg g] at h; exact h), fun g => ih (p + 1) _ hd' (by omega) (by rw [if_pos g] at h; exact h)⟩
theorem X_lengthOf {d : Nat} {σ : Sto} {K : Int64 → Sto → Prop} {w : Nat} {x : Int32} {ps : List Pt} (hW : WB σ w) (hY : WY σ w ps) (hl : ps.length ≤ 60) (h : K (lnS x ps 0) σ) : CL d 58 [aR (some w), aI x] σ K := by
  refine CL_of ?_
  show Ev (d, 0, 0) 58 0 [aR (some w), aI x, aU, aU, aU] [] σ _
  simp only [z10, z00, not_true_eq_false, not_false_eq_true, false_implies, true_implies, implies_true, nI_1, Int32.add_zero, true_or, or_true, true_and, and_true, eI_eq, eL_eq, eR_eq, eV_eq, lg_cmp_ge, lg_cmp_le, lg_cmp_gt, lg_cmp_lt, lg_cmp_eq, v_58_0, v_58_1, v_58_2, v_58_3]
  have := X_lengthOf_loop (b := (d, 0, 0)) (K := K) (x := x) hW hY hl ps 0 0 rfl (by omega) h
  simpa only [nI_0] using this
