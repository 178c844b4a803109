/-! the reference: way, share -/
def wkM (σ : Sto) (S n r : Nat) : Option (List (Nat × Int64 × Int64)) := wkO (nxM σ S) (fun k => beR (gl σ 86) (rwM σ k)) (fun k => enR (gl σ 86) (rwM σ k)) n r (enR (gl σ 86) (rwM σ r)) (beR (gl σ 86) (rwM σ r))
theorem wkM_of {σ σ' : Sto} (h : scW σ σ') (S n r : Nat) : wkM σ' S n r = wkM σ S n r := by
  unfold wkM
  rw [nxM_of h.rw h.mv, h.rw, h.mv]
def scV (σ σ' : Sto) : Prop := sn σ' = sn σ ∧ gr σ' = gr σ ∧ (∀ a, a ≠ 68 → a ≠ 89 → a ≠ 92 → a ≠ 94 → gi σ' a = gi σ a) ∧ (∀ k, k ≠ 18 → k ≠ 27 → k ≠ 33 → gi σ' 68 k = gi σ 68 k) ∧ (∀ a, a ≠ 90 → a ≠ 91 → a ≠ 93 → a ≠ 95 → a ≠ 96 → gl σ' a = gl σ a)
theorem wkO_mem {nx : Nat → Int64 → Int64 → Option Nat} {B E : Nat → Int64} {S : Nat} (hnx : ∀ x c f k, nx x c f = some k → k < S) : ∀ (n x : Nat) (c f : Int64) (l : List (Nat × Int64 × Int64)), x < S → wkO nx B E n x c f = some l → ∀ q, q ∈ l → q.1 < S := by
  intro n
  induction n with
  | zero => intro x c f l hx h; cases h
  | succ n ih =>
    intro x c f l hx h q hq
    unfold wkO at h
    split at h
    · cases h; cases hq
    · split at h
      · cases h
        simp only [List.mem_singleton] at hq
        rw [hq]; exact hx
      · rename_i k hk
        split at h
        · rename_i l1 l2 h1 h2
          cases h
          simp only [List.mem_append] at hq
          rcases hq with hq | hq | hq
          · split at hq
            · simp only [List.mem_singleton] at hq
              rw [hq]; exact hx
            · cases hq
          · exact ih _ _ _ _ (hnx _ _ _ _ hk) h1 q hq
          · exact ih _ _ _ _ hx h2 q hq
        · cases h
theorem M_way {d : Nat} {σ : Sto} {K : Int32 → Sto → Prop} {S : Nat} {t i : Int32} {n : Nat} (hM : MB σ S) (hR : ∀ k, k < S → okR (rwM σ k)) (hm : mvB (gl σ 86)) (hn : n ≤ 62) (hwk : ∀ r, r < S → ∃ l, wkM σ S n r = some l ∧ l.length ≤ 400) (h0 : (t < 0 ∨ 20 ≤ t) → K (-1) σ) (hN : ¬ t < 0 → ¬ 20 ≤ t → fnd (raB σ S t i) 0 S = none → ∀ v, K (-1) (dp σ v)) (h : ¬ t < 0 → ¬ 20 ≤ t → ∀ r l, fnd (raB σ S t i) 0 S = some r → r < S → wkM σ S n r = some l → ∀ σ2, scV σ σ2 → TP σ2 (l.reverse.map (fun q => (rN (rwM σ q.1), q.2))) → K (nI l.length) σ2) : CI (d + 6) 146 [aR (some 68), aI t, aI i] σ K := by
  have hS := hM.c
  refine CI_of ?_
  show Ev (d + 6, 0, 0) 146 0 [aR (some 68), aI t, aI i, aU, aU] [] σ _
  simp only [z10, z00, not_true_eq_false, not_false_eq_true, false_implies, true_implies, implies_true, nI_1, Int32.add_zero, true_or, or_true, true_and, and_true, eI_eq, eL_eq, eR_eq, eV_eq, lg_cmp_ge, lg_cmp_le, lg_cmp_gt, lg_cmp_lt, lg_cmp_eq, v_146_0, v_146_1, v_146_2, v_146_5, v_146_8, v_146_9, v_146_10, v_146_11, v_146_14, v_146_17, v_146_18, v_146_19, v_146_20, v_146_23, v_146_24, v_146_25, v_146_26, v_146_27, hM.o]
  refine M_isTrace (fun c => ?_) (fun c1 c2 => ?_)
  · have cc : ¬ (0 : Int32) ≤ -1 := by decide
    simp only [cc, z10, z00, not_true_eq_false, not_false_eq_true, false_implies, true_implies, implies_true, true_and, and_true, true_or, or_true, false_and, and_false, false_or, or_false]
    exact h0 c
  · simp only [hM.o, z10, z00, not_true_eq_false, not_false_eq_true, false_implies, true_implies, implies_true, true_and, and_true, true_or, or_true, false_and, and_false, false_or, or_false]
    refine M_rootAt hM (fun v => ?_)
    have hsv := scW.dp σ v
    have hMv := hsv.mb hM
    cases hf : fnd (raB σ S t i) 0 S with
    | none =>
      have cc : ¬ (0 : Int32) ≤ -1 := by decide
      simp only [ofN, cc, z10, z00, not_true_eq_false, not_false_eq_true, false_implies, true_implies, implies_true, true_and, and_true, true_or, or_true, false_and, and_false, false_or, or_false]
      exact hN c1 c2 hf v
    | some r =>
      have hr : r < S := by have := fnd_lt _ _ _ _ hf; omega
      have cc : (0 : Int32) ≤ nI r := nI_pos' (by omega)
      obtain ⟨l, hl, hl2⟩ := hwk r hr
      simp only [ofN, cc, hMv.o, z10, z00, not_true_eq_false, not_false_eq_true, false_implies, true_implies, implies_true, true_and, and_true, true_or, or_true, false_and, and_false, false_or, or_false]
      have hl' : wkM (dp σ v) S n r = some l := by rw [wkM_of hsv]; exact hl
      refine M_walk hMv (by rw [hsv.rw]; exact hR) (by rw [hsv.mv]; exact hm) hr hn hl' hl2 (fun σ2 hs2 hp2 => ?_)
      have hsw := hsv.trans hs2
      have hM2 := hsw.mb hM
      have hM3 : MB (si σ2 68 33 (gi σ2 68 27)) S := hM2
      have hp3 : PT (si σ2 68 33 (gi σ2 68 27)) l := ⟨by rw [gi_si_r, if_pos rfl, up1, if_neg (by decide)]; exact hp2.1, hp2.2⟩
      have hmem : ∀ q, q ∈ l → q.1 < S := wkO_mem (S := S) (fun x c f k e => (nxM_lt e).1) n r _ _ l hr hl
      simp only [z10, z00, not_true_eq_false, not_false_eq_true, false_implies, true_implies, implies_true, nI_1, Int32.add_zero, true_or, or_true, true_and, and_true, eI_eq, eL_eq, eR_eq, eV_eq, lg_cmp_ge, lg_cmp_le, lg_cmp_gt, lg_cmp_lt, lg_cmp_eq, v_146_30, v_146_31, v_146_32, v_146_35, v_146_38, v_146_39, hM2.o]
      refine M_way_loop (S := S) hM3 hp3 hl2 hmem l.length 0 _ (by omega) ⟨rfl, rfl, fun _ _ => rfl, fun _ _ _ => rfl⟩ (fun j q hj _ => by omega) (fun σ4 hs4 hz => ?_)
      refine h c1 c2 r l hf hr hl σ4 ⟨?_, ?_, fun a e1 e2 e3 e4 => ?_, fun k e1 e2 e3 => ?_, fun a e1 e2 e3 e4 e5 => ?_⟩ ⟨?_, fun j q hq => ?_⟩
      · rw [hs4.1]; exact hsw.1
      · rw [hs4.2.1]; exact hsw.2.1
      · rw [hs4.2.2.1 a e4, gi_si_r, if_neg e1]; exact hsw.2.2.1 a e1 e2 e3
      · rw [hs4.2.2.1 68 (by decide), gi_si_r, if_pos rfl, up1, if_neg e3]; exact hsw.2.2.2.1 k e1 e2
      · rw [hs4.2.2.2 a e4 e5, gl_si_r]; exact hsw.2.2.2.2 a e1 e2 e3
      · rw [hs4.2.2.1 68 (by decide), gi_si_r, if_pos rfl, up1, if_pos rfl, hp2.1, List.length_map, List.length_reverse]
      · rw [List.getElem?_map] at hq
        cases hqq : l.reverse[j]? with
        | none => rw [hqq] at hq; cases hq
        | some p =>
          rw [hqq] at hq
          cases hq
          have := hz j p hqq
          rw [show rwM (si σ2 68 33 (gi σ2 68 27)) = rwM σ2 from rfl, hsw.rw] at this
          exact this
def shS (k : Nat) : List (Nat × Int64 × Int64) → Int64 → Int64
  | [], a => a
  | q :: l, a => shS k l (a + if q.1 = k then q.2.2 - q.2.1 else 0)
theorem M_share_loop {b : B3} {σ : Sto} {K : Int64 → Sto → Prop} {S k : Nat} {t x : Int32} {ps : List (Nat × Int64 × Int64)} (hM : MB σ S) (hP : PT σ ps) (hl : ps.length ≤ 400) (hp : ∀ q, q ∈ ps → q.1 < S) (hk : k < S) : ∀ (l : List (Nat × Int64 × Int64)) (p : Nat) (a : Int64), ps.drop p = l → p ≤ ps.length → K (shS k l a) σ → Ev b 148 38 [aR (some 68), aI t, aI x, aI (nI k), aL a, aU, aI (nI p)] [] σ (eL K) := by
  intro l
  induction l with
  | nil =>
    intro p a hd hpl h
    have hp' : p = ps.length := by
      have := congrArg List.length hd
      simp only [List.length_drop, List.length_nil] at this
      omega
    subst hp'
    have hle : nI ps.length ≤ nI ps.length := Int32.le_refl _
    rw [v_148_38]
    simp only [z10, z00, not_true_eq_false, not_false_eq_true, false_implies, true_implies, implies_true, nI_1, Int32.add_zero, true_or, or_true, true_and, and_true, eI_eq, eL_eq, eR_eq, eV_eq, lg_cmp_ge, lg_cmp_le, lg_cmp_gt, lg_cmp_lt, lg_cmp_eq, v_148_40, v_148_41, v_148_44, v_148_47, v_148_49, v_148_50, v_148_53, v_148_55, v_148_56, v_148_57, v_148_60, v_148_61, v_148_64, v_148_66, v_148_67, v_148_68, v_148_71, v_148_73, v_148_74, v_148_75, v_148_78, v_148_79, v_148_80, v_148_82, v_148_85, v_148_88, v_148_90, hM.o, hP.1, hle]
    exact h
  | cons q l ih =>
    intro p a hd hpl h
    have hlt : p < ps.length := by
      have := congrArg List.length hd
      simp only [List.length_drop, List.length_cons] at this
      omega
    have hq : ps[p]? = some q := by
      have := congrArg (fun z => z[0]?) hd
      simpa [List.getElem?_drop] using this
    have hd' : ps.drop (p + 1) = l := by
      have := congrArg List.tail hd
      simpa [List.tail_drop] using this
    have hS := hM.c
    have hqS := hp _ (List.mem_of_getElem? hq)
    obtain ⟨p1, p2, p3⟩ := hP.2 _ _ hq
    have hle : ¬ nI ps.length ≤ nI p := nI_ge (by omega) (by omega)
    have hc : (nI p).toNatClampNeg = p := nI_clamp (by omega)
    rw [v_148_38]
    simp only [z10, z00, not_true_eq_false, not_false_eq_true, false_implies, true_implies, implies_true, nI_1, Int32.add_zero, true_or, or_true, true_and, and_true, eI_eq, eL_eq, eR_eq, eV_eq, lg_cmp_ge, lg_cmp_le, lg_cmp_gt, lg_cmp_lt, lg_cmp_eq, v_148_40, v_148_41, v_148_44, v_148_47, v_148_49, v_148_50, v_148_53, v_148_55, v_148_56, v_148_57, v_148_60, v_148_61, v_148_64, v_148_66, v_148_67, v_148_68, v_148_71, v_148_73, v_148_74, v_148_75, v_148_78, v_148_79, v_148_80, v_148_82, v_148_85, v_148_88, v_148_90, hM.o, hP.1, hle, hM.r28, hM.r29, hM.r30, hM.x89 (k := p) (by omega), hM.a90 (k := p) (by omega), hM.a91 (k := p) (by omega), hc, p1, p2, p3, nI_eq (show q.1 < 2 ^ 31 by omega) (show k < 2 ^ 31 by omega)]
    simp only [shS] at h
    exact ⟨fun g => ih (p + 1) _ hd' (by omega) (by rw [if_neg g] at h; exact h), fun g => ih (p + 1) _ hd' (by omega) (by rw [if_pos g] at h; exact h)⟩
theorem M_share {d : Nat} {σ : Sto} {K : Int64 → Sto → Prop} {S : Nat} {t x : Int32} {n : Nat} (hM : MB σ S) (hR : ∀ k, k < S → okR (rwM σ k)) (hm : mvB (gl σ 86)) (hn : n ≤ 62) (hwk : ∀ r, r < S → ∃ l, wkM σ S n r = some l ∧ l.length ≤ 400) (h0 : fIx (key t x) 0 (rws σ 0 S) = none → K (-9223372036854775808) σ) (h1 : ∀ k, k < S → fIx (key t x) 0 (rws σ 0 S) = some k → (roI (uM σ S) k = none → ∀ v, K (-9223372036854775808) (dp σ v)) ∧ (∀ r l, roI (uM σ S) k = some r → r < S → wkM σ S n r = some l → ∀ σ2, scW σ σ2 → K (shS k l 0) σ2)) : CL (d + 6) 148 [aR (some 68), aI t, aI x] σ K := by
  have hS := hM.c
  refine CL_of ?_
  show Ev (d + 6, 0, 0) 148 0 [aR (some 68), aI t, aI x, aU, aU, aU, aU] [] σ _
  simp only [z10, z00, not_true_eq_false, not_false_eq_true, false_implies, true_implies, implies_true, nI_1, Int32.add_zero, true_or, or_true, true_and, and_true, eI_eq, eL_eq, eR_eq, eV_eq, lg_cmp_ge, lg_cmp_le, lg_cmp_gt, lg_cmp_lt, lg_cmp_eq, v_148_0, v_148_1, v_148_2, v_148_3, v_148_6, v_148_7, v_148_8, v_148_11, v_148_12, v_148_13, v_148_16, v_148_19, v_148_22, v_148_23, v_148_24, v_148_25, v_148_26, v_148_29, hM.o]
  refine M_find hM ?_
  cases hf : fIx (key t x) 0 (rws σ 0 S) with
  | none =>
    have cc : ofN none < 0 := by decide
    simp only [cc, z10, z00, not_true_eq_false, not_false_eq_true, false_implies, true_implies, implies_true, true_and, and_true, true_or, or_true, false_and, and_false, false_or, or_false]
    exact h0 hf
  | some k =>
    have hk : k < S := by have := fIx_lt _ _ _ _ hf; rw [rws_len] at this; omega
    have cc : ¬ ofN (some k) < 0 := nI_pos (by omega)
    obtain ⟨h2, h3⟩ := h1 k hk hf
    have eo : ofN (some k) = nI k := rfl
    have cc2 : ¬ nI k < 0 := cc
    simp only [eo, cc2, hM.o, z10, z00, not_true_eq_false, not_false_eq_true, false_implies, true_implies, implies_true, true_and, and_true, true_or, or_true, false_and, and_false, false_or, or_false]
    refine (fun (hh : ∀ K, K (ofN (roI (uM σ S) k)) (dp σ (nI (deI (uM σ S) k))) → CI (d + 5) 115 [aR (some 68), aI (nI k)] σ K) => hh _ ?_) (fun K q => by
      have := M_rootOf (d := d + 3) (K := K) hM hk q (gi σ 68 18)
      rw [dp_self] at this
      exact this)
    cases hro : roI (uM σ S) k with
    | none =>
      have c1 : ¬ (0 : Int32) ≤ ofN none := by decide
      simp only [c1, z10, z00, not_true_eq_false, not_false_eq_true, false_implies, true_implies, implies_true, true_and, and_true, true_or, or_true, false_and, and_false, false_or, or_false]
      exact h2 hro _
    | some r =>
      have hr : r < S := roI_lt hk hro
      have c1 : (0 : Int32) ≤ ofN (some r) := nI_pos' (by omega)
      obtain ⟨l, hl, hl2⟩ := hwk r hr
      have hsv := scW.dp σ (nI (deI (uM σ S) k))
      have hMv := hsv.mb hM
      simp only [c1, hMv.o, z10, z00, not_true_eq_false, not_false_eq_true, false_implies, true_implies, implies_true, true_and, and_true, true_or, or_true, false_and, and_false, false_or, or_false]
      refine M_rootOf hM hk ?_ _
      rw [hro]
      have er : ofN (some r) = nI r := rfl
      simp only [hMv.o, z10, z00, not_true_eq_false, not_false_eq_true, false_implies, true_implies, implies_true, true_and, and_true, true_or, or_true, false_and, and_false, false_or, or_false, er]
      have hl' : wkM (dp σ (nI (deI (uM σ S) k))) S n r = some l := by rw [wkM_of hsv]; exact hl
      refine M_walk hMv (by rw [hsv.rw]; exact hR) (by rw [hsv.mv]; exact hm) hr hn hl' hl2 (fun σ2 hs2 hp2 => ?_)
      have hsw := hsv.trans hs2
      have hM2 := hsw.mb hM
      have hmem : ∀ q, q ∈ l → q.1 < S := wkO_mem (S := S) (fun x c f k e => (nxM_lt e).1) n r _ _ l hr hl
      simp only [z10, z00, not_true_eq_false, not_false_eq_true, false_implies, true_implies, implies_true, nI_1, Int32.add_zero, true_or, or_true, true_and, and_true, eI_eq, eL_eq, eR_eq, eV_eq, lg_cmp_ge, lg_cmp_le, lg_cmp_gt, lg_cmp_lt, lg_cmp_eq, v_148_32, v_148_33, v_148_35, v_148_36]
      have := M_share_loop (b := (d + 6, 0, 0)) (K := K) (t := t) (x := x) hM2 hp2 hl2 hmem hk l 0 0 rfl (by omega) (h3 r l hro hr hl σ2 hsw)
      simpa only [nI_0] using this
/-! the reference: paths alike -/
/-- the path of a trace -/
def PH (σ : Sto) (t : Nat) (l : List Int32) : Prop := gi σ 99 t = nI l.length ∧ ∀ i q, l[i]? = some q → gi σ 98 (400 * t + i) = q
theorem ix4 (t k : Nat) : 400 * nI t + nI k = nI (400 * t + k) := by rw [show (400 : Int32) = nI 400 from rfl, pk_mul, nI_add]
def eqL : List Int32 → List Int32 → Bool
  | [], [] => true
  | a :: l, b :: m => decide (a = b) && eqL l m
  | _, _ => false
theorem eqL_iff : ∀ l m : List Int32, eqL l m = decide (l = m)
  | [], [] => rfl
  | [], _ :: _ => rfl
  | _ :: _, [] => rfl
  | a :: l, b :: m => by
    rw [eqL, eqL_iff l m]
    by_cases h1 : a = b <;> by_cases h2 : l = m <;> simp [h1, h2]
theorem eqL_len : ∀ l m : List Int32, ¬ l.length = m.length → eqL l m = false
  | [], [], h => absurd rfl h
  | [], _ :: _, _ => rfl
  | _ :: _, [], _ => rfl
  | a :: l, b :: m, h => by
    rw [eqL, eqL_len l m (fun q => h (by simp [q])), Bool.and_false]
theorem M_isSamePath_loop {b : B3} {σ : Sto} {K : Int32 → Sto → Prop} {S s t : Nat} {l m : List Int32} (hM : MB σ S) (hs : s < 20) (ht : t < 20) (hl : PH σ s l) (hm : PH σ t m) (hl2 : l.length ≤ 400) (he : l.length = m.length) : ∀ (l' m' : List Int32) (k : Nat) (g : Bool), l.drop k = l' → m.drop k = m' → k ≤ l.length → K (bI (g && eqL l' m')) σ → Ev b 151 24 [aR (some 68), aI (nI s), aI (nI t), aI (bI g), aI (nI k)] [] σ (eI K) := by
  intro l'
  have hcs : (nI s).toNatClampNeg = s := nI_clamp (by omega)
  have hct : (nI t).toNatClampNeg = t := nI_clamp (by omega)
  induction l' with
  | nil =>
    intro m' k g hd hd2 hk h
    have hk' : k = l.length := by
      have := congrArg List.length hd
      simp only [List.length_drop, List.length_nil] at this
      omega
    subst hk'
    have hm' : m' = [] := by rw [← hd2, he, List.drop_length]
    subst hm'
    have hle : nI l.length ≤ nI l.length := Int32.le_refl _
    rw [v_151_24]
    simp only [z10, z00, not_true_eq_false, not_false_eq_true, false_implies, true_implies, implies_true, nI_1, Int32.add_zero, true_or, or_true, true_and, and_true, eI_eq, eL_eq, eR_eq, eV_eq, lg_cmp_ge, lg_cmp_le, lg_cmp_gt, lg_cmp_lt, lg_cmp_eq, v_151_26, v_151_27, v_151_30, v_151_31, v_151_32, v_151_35, v_151_36, v_151_39, v_151_40, v_151_43, v_151_46, v_151_47, v_151_48, v_151_50, v_151_51, v_151_52, v_151_53, v_151_56, v_151_59, v_151_60, v_151_61, v_151_63, v_151_64, v_151_65, v_151_68, v_151_69, v_151_72, v_151_73, v_151_74, v_151_77, v_151_80, v_151_81, hM.o, hM.r40, hM.x99 (k := s) hs, hcs, hl.1, hle]
    refine ⟨by cases g <;> decide, ?_⟩
    simpa [eqL] using h
  | cons a l' ih =>
    intro m' k g hd hd2 hk h
    have hlt : k < l.length := by
      have := congrArg List.length hd
      simp only [List.length_drop, List.length_cons] at this
      omega
    have hq : l[k]? = some a := by
      have := congrArg (fun z => z[0]?) hd
      simpa [List.getElem?_drop] using this
    have hd' : l.drop (k + 1) = l' := by
      have := congrArg List.tail hd
      simpa [List.tail_drop] using this
    cases m' with
    | nil =>
      have := congrArg List.length hd2
      simp only [List.length_drop, List.length_nil] at this
      omega
    | cons b' m' =>
      have hq2 : m[k]? = some b' := by
        have := congrArg (fun z => z[0]?) hd2
        simpa [List.getElem?_drop] using this
      have hd2' : m.drop (k + 1) = m' := by
        have := congrArg List.tail hd2
        simpa [List.tail_drop] using this
      have hle : ¬ nI l.length ≤ nI k := nI_ge (by omega) (by omega)
      have i1 : 400 * s + k < 8000 := by omega
      have i2 : 400 * t + k < 8000 := by omega
      have c1 : (nI (400 * s + k)).toNatClampNeg = 400 * s + k := nI_clamp (by omega)
      have c2 : (nI (400 * t + k)).toNatClampNeg = 400 * t + k := nI_clamp (by omega)
      rw [v_151_24]
      simp only [z10, z00, not_true_eq_false, not_false_eq_true, false_implies, true_implies, implies_true, nI_1, Int32.add_zero, true_or, or_true, true_and, and_true, eI_eq, eL_eq, eR_eq, eV_eq, lg_cmp_ge, lg_cmp_le, lg_cmp_gt, lg_cmp_lt, lg_cmp_eq, v_151_26, v_151_27, v_151_30, v_151_31, v_151_32, v_151_35, v_151_36, v_151_39, v_151_40, v_151_43, v_151_46, v_151_47, v_151_48, v_151_50, v_151_51, v_151_52, v_151_53, v_151_56, v_151_59, v_151_60, v_151_61, v_151_63, v_151_64, v_151_65, v_151_68, v_151_69, v_151_72, v_151_73, v_151_74, v_151_77, v_151_80, v_151_81, hM.o, hM.r40, hM.x99 (k := s) hs, hcs, hl.1, hle]
      cases g with
      | false =>
        simp only [bI, Bool.false_eq_true, if_false, z10, z00, not_true_eq_false, not_false_eq_true, false_implies, true_implies, implies_true, true_and, and_true, true_or, or_true, false_and, and_false, false_or, or_false]
        simpa [bI] using h
      | true =>
        simp only [bI, if_true, z10, z00, not_true_eq_false, not_false_eq_true, false_implies, true_implies, implies_true, nI_1, Int32.add_zero, true_or, or_true, true_and, and_true, eI_eq, eL_eq, eR_eq, eV_eq, lg_cmp_ge, lg_cmp_le, lg_cmp_gt, lg_cmp_lt, lg_cmp_eq, v_151_39, v_151_40, v_151_43, v_151_46, v_151_47, v_151_48, v_151_50, v_151_51, v_151_52, v_151_53, v_151_56, v_151_59, v_151_60, v_151_61, v_151_63, v_151_64, v_151_65, v_151_68, v_151_69, v_151_72, v_151_73, v_151_74, v_151_77, v_151_80, v_151_81, hM.o, hM.r39, ix4, hM.x98 (k := _) i1, hM.x98 (k := _) i2, c1, c2, hl.2 k a hq, hm.2 k b' hq2, z10, z00, not_true_eq_false, not_false_eq_true, false_implies, true_implies, implies_true, true_and, and_true, true_or, or_true, false_and, and_false, false_or, or_false]
        simp only [eqL] at h
        refine ⟨fun q => ?_, fun q => ?_⟩
        · have := ih m' (k + 1) false hd' hd2' (by omega) (by simpa [q] using h)
          exact this
        · have := ih m' (k + 1) true hd' hd2' (by omega) (by simpa [q] using h)
          exact this
theorem M_isSamePath {d : Nat} {σ : Sto} {K : Int32 → Sto → Prop} {S s t : Nat} {l m : List Int32} (hM : MB σ S) (hs : s < 20) (ht : t < 20) (hl : PH σ s l) (hm : PH σ t m) (hl2 : l.length ≤ 400) (hm2 : m.length ≤ 400) (h : K (bI (eqL l m)) σ) : CI d 151 [aR (some 68), aI (nI s), aI (nI t)] σ K := by
  have hcs : (nI s).toNatClampNeg = s := nI_clamp (by omega)
  have hct : (nI t).toNatClampNeg = t := nI_clamp (by omega)
  refine CI_of ?_
  show Ev (d, 0, 0) 151 0 [aR (some 68), aI (nI s), aI (nI t), aU, aU] [] σ _
  simp only [z10, z00, not_true_eq_false, not_false_eq_true, false_implies, true_implies, implies_true, nI_1, Int32.add_zero, true_or, or_true, true_and, and_true, eI_eq, eL_eq, eR_eq, eV_eq, lg_cmp_ge, lg_cmp_le, lg_cmp_gt, lg_cmp_lt, lg_cmp_eq, v_151_0, v_151_1, v_151_4, v_151_5, v_151_6, v_151_7, v_151_10, v_151_11, v_151_12, v_151_15, v_151_16, v_151_19, v_151_20, v_151_21, v_151_22, hM.o, hM.r40, hM.x99 (k := s) hs, hM.x99 (k := t) ht, hcs, hct, hl.1, hm.1, nI_eq (show l.length < 2 ^ 31 by omega) (show m.length < 2 ^ 31 by omega)]
  refine ⟨fun g => ?_, fun g => ?_⟩
  · rw [eqL_len l m g] at h
    have hpos : 0 < l.length ∨ l.length = 0 := by omega
    rw [v_151_24]
    simp only [z10, z00, not_true_eq_false, not_false_eq_true, false_implies, true_implies, implies_true, nI_1, Int32.add_zero, true_or, or_true, true_and, and_true, eI_eq, eL_eq, eR_eq, eV_eq, lg_cmp_ge, lg_cmp_le, lg_cmp_gt, lg_cmp_lt, lg_cmp_eq, v_151_26, v_151_27, v_151_30, v_151_31, v_151_32, v_151_35, v_151_36, v_151_39, v_151_40, v_151_43, v_151_46, v_151_47, v_151_48, v_151_50, v_151_51, v_151_52, v_151_53, v_151_56, v_151_59, v_151_60, v_151_61, v_151_63, v_151_64, v_151_65, v_151_68, v_151_69, v_151_72, v_151_73, v_151_74, v_151_77, v_151_80, v_151_81, hM.o, hM.r40, hM.x99 (k := s) hs, hcs, hl.1]
    exact ⟨fun _ => h, fun _ => h⟩
  · have := M_isSamePath_loop (b := (d, 0, 0)) (K := K) hM hs ht hl hm hl2 g l m 0 true rfl rfl (by omega) (by simpa using h)
    exact this
