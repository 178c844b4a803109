/-! the class: what holds between calls, and what a question may write -/
theorem tpS_of {σ σ' : Sto} {l : List Nat} (hr : ∀ a, 103 ≤ a → rwX σ' 0 a = rwX σ 0 a) (hu : uX σ' l = uX σ l) (hl : ∀ a, a ∈ l → 103 ≤ a) {a : Nat} (ha : 103 ≤ a) (o : Nat → Option Int64) : tpS σ' l a o = tpS σ l a o := by
  unfold tpS
  rw [hu]
  cases h : uX σ l a with
  | none => rfl
  | some p => simp only [hr a ha, hr p (hl p (uX_mem h))]
theorem tpL_of {σ σ' : Sto} {l : List Nat} (hr : ∀ a, 103 ≤ a → rwX σ' 0 a = rwX σ 0 a) (hu : uX σ' l = uX σ l) (hl : ∀ a, a ∈ l → 103 ≤ a) : ∀ (m : List Nat) (o : Nat → Option Int64), (∀ a, a ∈ m → 103 ≤ a) → tpL σ' l m o = tpL σ l m o
  | [], _, _ => rfl
  | a :: m, o, h => by
    rw [tpL, tpL, tpS_of hr hu hl (h a (List.mem_cons_self ..)), tpL_of hr hu hl m _ (fun b hb => h b (List.mem_cons_of_mem _ hb))]
theorem itr_congr {α : Type} {f g : Nat → α → α} : ∀ (n k : Nat) (a : α), (∀ j a, k ≤ j → j < k + n → f j a = g j a) → itr f k n a = itr g k n a
  | 0, _, _, _ => rfl
  | n + 1, k, a, h => by
    rw [itr, itr, h k a (by omega) (by omega)]
    exact itr_congr n (k + 1) _ (fun j a h1 h2 => h j a (by omega) (by omega))
def bdX (σ : Sto) (L : Nat → List Nat) : Nat → Option Int64 := itr (fun t o => tpL σ (L t) (L t) o) 0 20 (fun _ => none)
/-- the class's own cells between two calls -/
def XI (σ : Sto) (L : Nat → List Nat) : Prop :=
  XB σ ∧ (∀ t, t < 20 → Tr σ (28 + 2 * t) (L t) ∧ gi σ (28 + 2 * t) 1 = nI (L t).length ∧ (∀ a, a ∈ L t → okR (rwX σ (nI t) a))) ∧ (∀ t u, t < 20 → u < 20 → t ≠ u → ∀ a, a ∈ L t → a ∉ L u) ∧ (gi σ 7 6 = 0 ∨ (gi σ 7 6 = 1 ∧ KN σ (bdX σ L)))
theorem XI.xb {σ : Sto} {L : Nat → List Nat} (h : XI σ L) : XB σ := h.1
theorem XI.t {σ : Sto} {L : Nat → List Nat} (h : XI σ L) {t : Nat} (ht : t < 20) : Tr σ (28 + 2 * t) (L t) := (h.2.1 t ht).1
theorem XI.n {σ : Sto} {L : Nat → List Nat} (h : XI σ L) {t : Nat} (ht : t < 20) : gi σ (28 + 2 * t) 1 = nI (L t).length := (h.2.1 t ht).2.1
theorem XI.r {σ : Sto} {L : Nat → List Nat} (h : XI σ L) {t : Nat} (ht : t < 20) : ∀ a, a ∈ L t → okR (rwX σ (nI t) a) := (h.2.1 t ht).2.2
theorem XI.g {σ : Sto} {L : Nat → List Nat} (h : XI σ L) {t : Nat} (ht : t < 20) : ∀ a, a ∈ L t → 103 ≤ a := fun a ha => (lkt_mem (h.t ht).2.2.2.1 a ha).1
/-- what a question may write -/
def XQ (σ σ' : Sto) : Prop := sn σ' = sn σ ∧ (∀ a k, a < 103 → gr σ' a k = gr σ a k) ∧ (∀ a k, 103 ≤ a → k ≠ 9 → k ≠ 10 → gr σ' a k = gr σ a k) ∧ (∀ a k, 103 ≤ a → k ≠ 11 → gi σ' a k = gi σ a k) ∧ (∀ a k, a < 103 → ¬ (28 ≤ a ∧ a < 68 ∧ a % 2 = 0 ∧ k = 2) → ¬ (a = 7 ∧ (k = 4 ∨ k = 5 ∨ k = 6)) → a ≠ 11 → ¬ (a = 20 ∧ k = 4) → a ≠ 21 → a ≠ 22 → gi σ' a k = gi σ a k) ∧ (∀ a, a ≠ 8 → a ≠ 9 → a ≠ 23 → a ≠ 24 → a ≠ 25 → gl σ' a = gl σ a)
theorem XQ.rfl (σ : Sto) : XQ σ σ := ⟨Eq.refl _, fun _ _ _ => Eq.refl _, fun _ _ _ _ _ => Eq.refl _, fun _ _ _ _ => Eq.refl _, fun _ _ _ _ _ _ _ _ _ => Eq.refl _, fun _ _ _ _ _ _ => Eq.refl _⟩
theorem XQ.trans {σ σ' σ'' : Sto} (h1 : XQ σ σ') (h2 : XQ σ' σ'') : XQ σ σ'' := ⟨h2.1.trans h1.1, fun a k e => (h2.2.1 a k e).trans (h1.2.1 a k e), fun a k e1 e2 e3 => (h2.2.2.1 a k e1 e2 e3).trans (h1.2.2.1 a k e1 e2 e3), fun a k e1 e2 => (h2.2.2.2.1 a k e1 e2).trans (h1.2.2.2.1 a k e1 e2), fun a k e1 e2 e3 e4 e5 e6 e7 => (h2.2.2.2.2.1 a k e1 e2 e3 e4 e5 e6 e7).trans (h1.2.2.2.2.1 a k e1 e2 e3 e4 e5 e6 e7), fun a e1 e2 e3 e4 e5 => (h2.2.2.2.2.2 a e1 e2 e3 e4 e5).trans (h1.2.2.2.2.2 a e1 e2 e3 e4 e5)⟩
theorem XQ.rw {σ σ' : Sto} (h : XQ σ σ') {t : Int32} {a : Nat} (ha : 103 ≤ a) : rwX σ' t a = rwX σ t a := by
  unfold rwX
  rw [h.2.2.2.1 a 0 ha (by decide), h.2.2.2.1 a 1 ha (by decide), h.2.2.2.1 a 2 ha (by decide), h.2.2.2.1 a 3 ha (by decide), h.2.2.2.1 a 4 ha (by decide), h.2.2.2.1 a 5 ha (by decide), h.2.2.2.2.2 a (by omega) (by omega) (by omega) (by omega) (by omega)]
theorem XQ.u {σ σ' : Sto} (h : XQ σ σ') {l : List Nat} (hl : ∀ a, a ∈ l → 103 ≤ a) : uX σ' l = uX σ l := uX_of (fun a ha => ⟨h.2.2.2.1 a 0 ha (by decide), h.2.2.2.1 a 1 ha (by decide)⟩) hl
theorem XQ.xb {σ σ' : Sto} (h : XQ σ σ') (hX : XB σ) : XB σ' := XB_of (Nat.le_of_eq h.1.symm) (fun a k ha _ => h.2.1 a k ha) hX
theorem XQ.lk {σ σ' : Sto} (h : XQ σ σ') {l : List Nat} {r : Option Nat} (hl : lkt σ l r) : lkt σ' l r := lkt_of (Nat.le_of_eq h.1.symm) (fun a ha => h.2.2.1 a 8 (lkt_mem hl a ha).1 (by decide) (by decide)) hl
theorem XQ.s {σ σ' : Sto} {l : List Nat} {t : Nat} (ht : t < 20) (hl : ∀ a, a ∈ l → 103 ≤ a) (h : scS l (28 + 2 * t) σ σ') : XQ σ σ' :=
  ⟨h.1, fun a k ha => h.2.2.2 a k (fun q => by have := hl a q.1; omega), fun a k ha e1 e2 => h.2.2.2 a k (fun q => by rcases q.2 with e | e; exact e1 e; exact e2 e), fun a k ha e => h.2.2.1 a k (fun q => e q.2) (fun q => by omega), fun a k ha e _ _ _ _ _ => h.2.2.1 a k (fun q => by have := hl a q.1; omega) (fun q => e ⟨by omega, by omega, by omega, q.2⟩), fun a _ _ _ _ _ => by rw [h.2.1]⟩
theorem XQ.z {σ σ' : Sto} (h : scZ 8 σ σ') : XQ σ σ' := ⟨h.1, fun a k _ => by rw [h.2.1], fun a k _ _ _ => by rw [h.2.1], fun a k _ _ => by rw [h.2.2.1], fun a k _ _ _ _ _ _ _ => by rw [h.2.2.1], fun a e _ _ _ _ => h.2.2.2 a e⟩
theorem XQ.k {σ σ' : Sto} (h : scK σ σ') : XQ σ σ' := ⟨h.1, fun a k _ => by rw [h.2.1], fun a k _ _ _ => by rw [h.2.1], fun a k ha _ => h.2.2.1 a k (by omega) (by omega), fun a k _ _ e1 e2 _ _ _ => h.2.2.1 a k e2 e1, fun a _ e _ _ _ => h.2.2.2 a e⟩
theorem XQ.f {σ σ' : Sto} (h : scF 20 σ σ') : XQ σ σ' := ⟨h.1, fun a k _ => by rw [h.2.1], fun a k _ _ _ => by rw [h.2.1], fun a k ha _ => h.2.2.1 a k (by omega) (by omega) (by omega), fun a k _ _ _ _ e1 e2 e3 => h.2.2.1 a k e1 e2 e3, fun a _ _ e1 e2 e3 => h.2.2.2 a e1 e2 e3⟩
theorem XQ.bd {σ σ' : Sto} (h : XQ σ σ') {L : Nat → List Nat} (hl : ∀ t, t < 20 → ∀ a, a ∈ L t → 103 ≤ a) : bdX σ' L = bdX σ L :=
  itr_congr 20 0 _ (fun t o _ ht => tpL_of (fun a ha => h.rw ha) (h.u (hl t (by omega))) (hl t (by omega)) _ _ (hl t (by omega)))
theorem KN_of {σ σ' : Sto} {o : Nat → Option Int64} (h8 : gl σ' 8 = gl σ 8) (h9 : gl σ' 9 = gl σ 9) (h4 : gi σ' 7 4 = gi σ 7 4) (h5 : gi σ' 7 5 = gi σ 7 5) (h11 : gi σ' 11 = gi σ 11) (h : KN σ o) : KN σ' o := by
  obtain ⟨k1, k2, k3, k4⟩ := h
  refine ⟨fun k hk => by rw [h8]; exact k1 k hk, fun k hk => by rw [h9]; exact k2 k hk, by rw [h5]; exact k3, ?_⟩
  unfold RZ at k4 ⊢
  rw [h4]
  refine ⟨k4.1, k4.2.1, fun g r hr => ?_⟩
  obtain ⟨q1, q2, q3⟩ := k4.2.2 g r hr
  exact ⟨q1, fun i q hq => by rw [h11]; exact q2 i q hq, q3⟩
theorem SET_of {σ σ' : Sto} {l : List Nat} (hu : uX σ' l = uX σ l) (h : ∀ a, a ∈ l → gr σ' a 9 = gr σ a 9 ∧ gr σ' a 10 = gr σ a 10 ∧ gi σ' a 11 = gi σ a 11) (hS : SET σ l) : SET σ' l := fun a ha => by
  obtain ⟨e1, e2, e3⟩ := h a ha
  rw [e1, e2, e3, hu]
  exact hS a ha
theorem XI.set {σ σ' : Sto} {L : Nat → List Nat} {t : Nat} (h : XI σ L) (ht : t < 20) (hs : scS (L t) (28 + 2 * t) σ σ') (hT : Tr σ' (28 + 2 * t) (L t)) : XI σ' L := by
  have hq := XQ.s ht (h.g ht) hs
  have hg : ∀ u, u < 20 → ∀ a, a ∈ L u → 103 ≤ a := fun u hu => h.g hu
  refine ⟨hq.xb h.1, fun u hu => ⟨?_, ?_, fun a ha => by rw [hq.rw (hg u hu a ha)]; exact h.r hu a ha⟩, h.2.2.1, ?_⟩
  · by_cases e : u = t
    · subst e; exact hT
    · obtain ⟨q1, q2, q3, q4, q5, q6⟩ := h.t hu
      have hS : SET σ (L u) → SET σ' (L u) := SET_of (hq.u (hg u hu)) (fun a ha => ⟨hs.2.2.2 a 9 (fun q => h.2.2.1 u t hu ht e a ha q.1), hs.2.2.2 a 10 (fun q => h.2.2.1 u t hu ht e a ha q.1), hs.2.2.1 a 11 (fun q => h.2.2.1 u t hu ht e a ha q.1) (fun q => by have := hg u hu a ha; omega)⟩)
      refine ⟨⟨by rw [hq.1]; exact q1.1, q1.2⟩, q2, by rw [hq.2.1 _ _ q2]; exact q3, hq.lk q4, q5, ?_⟩
      rw [hs.2.2.1 (28 + 2 * u) 2 (fun q => by have := h.g ht _ q.1; omega) (by omega)]
      exact q6.imp id (fun q => ⟨q.1, hS q.2⟩)
  · rw [hs.2.2.1 (28 + 2 * u) 1 (fun q => by have := h.g ht _ q.1; omega) (by omega)]
    exact h.n hu
  · have e : ∀ a k, a < 103 → ¬ (28 ≤ a) → gi σ' a k = gi σ a k := fun a k h1 h2 => hs.2.2.1 a k (fun q => by have := h.g ht _ q.1; omega) (by omega)
    rw [e 7 6 (by decide) (by decide), hq.bd hg]
    exact h.2.2.2.imp id (fun q => ⟨q.1, KN_of (by rw [hs.2.1]) (by rw [hs.2.1]) (e 7 4 (by decide) (by decide)) (e 7 5 (by decide) (by decide)) (funext fun k => e 11 k (by decide) (by decide)) q.2⟩)
theorem bdX_of {σ σ' : Sto} {L : Nat → List Nat} (hr : ∀ a, 103 ≤ a → rwX σ' 0 a = rwX σ 0 a) (hl : ∀ t, t < 20 → ∀ a, a ∈ L t → 103 ≤ a) : bdX σ' L = bdX σ L :=
  itr_congr 20 0 _ (fun t o _ ht => tpL_of hr (uX_of (fun a ha => ⟨congrArg rN (hr a ha), congrArg rP (hr a ha)⟩) (hl t (by omega))) (hl t (by omega)) _ _ (hl t (by omega)))
/-- the rest of the cells is written: all that is asked of the traces stays -/
theorem XI.of {σ σ' : Sto} {L : Nat → List Nat} (h : XI σ L) (hs : sn σ' = sn σ) (hr : gr σ' = gr σ) (h1 : ∀ a, 103 ≤ a → gi σ' a = gi σ a ∧ gl σ' a = gl σ a) (h2 : ∀ t, t < 20 → gi σ' (28 + 2 * t) 1 = gi σ (28 + 2 * t) 1 ∧ gi σ' (28 + 2 * t) 2 = gi σ (28 + 2 * t) 2) (hK : gi σ' 7 6 = 0 ∨ (gi σ' 7 6 = 1 ∧ KN σ' (bdX σ L))) : XI σ' L := by
  have hg : ∀ u, u < 20 → ∀ a, a ∈ L u → 103 ≤ a := fun u hu => h.g hu
  have hw : ∀ (t : Int32) a, 103 ≤ a → rwX σ' t a = rwX σ t a := fun t a ha => by unfold rwX; rw [(h1 a ha).1, (h1 a ha).2]
  have hu : ∀ u, u < 20 → uX σ' (L u) = uX σ (L u) := fun u hu => uX_of (fun a ha => ⟨congrArg rN (hw 0 a ha), congrArg rP (hw 0 a ha)⟩) (hg u hu)
  refine ⟨XB_of (Nat.le_of_eq hs.symm) (fun a k _ _ => by rw [hr]) h.1, fun u hu1 => ⟨?_, by rw [(h2 u hu1).1]; exact h.n hu1, fun a ha => by rw [hw _ a (hg u hu1 a ha)]; exact h.r hu1 a ha⟩, h.2.2.1, by rw [bdX_of (hw 0) hg]; exact hK⟩
  obtain ⟨q1, q2, q3, q4, q5, q6⟩ := h.t hu1
  have hS : SET σ (L u) → SET σ' (L u) := SET_of (hu u hu1) (fun a ha => by rw [hr, (h1 a (hg u hu1 a ha)).1]; exact ⟨Eq.refl _, Eq.refl _, Eq.refl _⟩)
  refine ⟨⟨by rw [hs]; exact q1.1, q1.2⟩, q2, by rw [hr]; exact q3, lkt_of (Nat.le_of_eq hs.symm) (fun a _ => by rw [hr]) q4, q5, ?_⟩
  rw [(h2 u hu1).2]
  exact q6.imp id (fun q => ⟨q.1, hS q.2⟩)
/-! the class: small questions of numbers -/
theorem X_isService {d : Nat} {σ : Sto} {x : Int32} {K : Int32 → Sto → Prop} (h0 : (x < 0 ∨ 6 ≤ x) → K 0 σ) (h1 : ∀ v, v < 6 → x = nI v → K 1 σ) : CI d 87 [aI x] σ K := by
  refine CI_of ?_
  show Ev (d, 0, 0) 87 0 [aI x] [] σ _
  simp only [z10, z00, not_true_eq_false, not_false_eq_true, false_implies, true_implies, implies_true, nI_1, Int32.add_zero, true_or, or_true, true_and, and_true, eI_eq, eL_eq, eR_eq, eV_eq, lg_cmp_ge, lg_cmp_le, lg_cmp_gt, lg_cmp_lt, lg_cmp_eq, v_87_0, v_87_1, v_87_4, v_87_5, v_87_7, v_87_10, v_87_11, v_87_14, v_87_15]
  exact ⟨fun c => h0 (Or.inl c), fun c => ⟨fun c2 => h0 (Or.inr c2), fun c2 => by obtain ⟨v, hv, e⟩ := ix_of (n := 6) (by decide) c c2; exact h1 v hv e⟩⟩
theorem X_isAct {d : Nat} {σ : Sto} {x : Int32} {K : Int32 → Sto → Prop} (h0 : (x < 0 ∨ 8 ≤ x) → K 0 σ) (h1 : ∀ v, v < 8 → x = nI v → K 1 σ) : CI d 88 [aI x] σ K := by
  refine CI_of ?_
  show Ev (d, 0, 0) 88 0 [aI x] [] σ _
  simp only [z10, z00, not_true_eq_false, not_false_eq_true, false_implies, true_implies, implies_true, nI_1, Int32.add_zero, true_or, or_true, true_and, and_true, eI_eq, eL_eq, eR_eq, eV_eq, lg_cmp_ge, lg_cmp_le, lg_cmp_gt, lg_cmp_lt, lg_cmp_eq, v_88_0, v_88_1, v_88_4, v_88_5, v_88_7, v_88_10, v_88_11, v_88_14, v_88_15]
  exact ⟨fun c => h0 (Or.inl c), fun c => ⟨fun c2 => h0 (Or.inr c2), fun c2 => by obtain ⟨v, hv, e⟩ := ix_of (n := 8) (by decide) c c2; exact h1 v hv e⟩⟩
def okK (x : Int32) : Prop := ¬ x < 0 ∧ ¬ 12 < x ∧ ¬ 4 < x - x / 8 * 8
theorem X_isKind {d : Nat} {σ : Sto} {x : Int32} {K : Int32 → Sto → Prop} (h0 : ¬ okK x → K 0 σ) (h1 : okK x → K 1 σ) : CI d 89 [aI x] σ K := by
  refine CI_of ?_
  show Ev (d, 0, 0) 89 0 [aI x] [] σ _
  simp only [z10, z00, not_true_eq_false, not_false_eq_true, false_implies, true_implies, implies_true, nI_1, Int32.add_zero, true_or, or_true, true_and, and_true, eI_eq, eL_eq, eR_eq, eV_eq, lg_cmp_ge, lg_cmp_le, lg_cmp_gt, lg_cmp_lt, lg_cmp_eq, v_89_0, v_89_1, v_89_4, v_89_5, v_89_7, v_89_10, v_89_11, v_89_13, v_89_14, v_89_15, v_89_18, v_89_19, v_89_22, v_89_23]
  exact ⟨fun c => h0 (fun q => q.1 c), fun c => ⟨fun c2 => h0 (fun q => q.2.1 c2), fun c2 => ⟨by decide, fun c3 => h0 (fun q => q.2.2 c3), fun c3 => h1 ⟨c, c2, c3⟩⟩⟩⟩
def okB (b e : Int64) : Prop := ¬ b < 0 ∧ ¬ e < b ∧ ¬ 1000000000 < e
theorem X_areTimes {d : Nat} {σ : Sto} {b e : Int64} {K : Int32 → Sto → Prop} (h0 : ¬ okB b e → K 0 σ) (h1 : okB b e → K 1 σ) : CI d 90 [aL b, aL e] σ K := by
  refine CI_of ?_
  show Ev (d, 0, 0) 90 0 [aL b, aU, aL e, aU] [] σ _
  simp only [z10, z00, not_true_eq_false, not_false_eq_true, false_implies, true_implies, implies_true, nI_1, Int32.add_zero, true_or, or_true, true_and, and_true, eI_eq, eL_eq, eR_eq, eV_eq, lg_cmp_ge, lg_cmp_le, lg_cmp_gt, lg_cmp_lt, lg_cmp_eq, v_90_0, v_90_1, v_90_2, v_90_3, v_90_6, v_90_7, v_90_8, v_90_9, v_90_12, v_90_13, v_90_16, v_90_17, v_90_20, v_90_21, v_90_24, v_90_25]
  exact ⟨fun c => h0 (fun q => q.1 c), fun c => ⟨fun c2 => h0 (fun q => q.2.1 c2), fun c2 => ⟨fun c3 => h0 (fun q => q.2.2 c3), fun c3 => h1 ⟨c, c2, c3⟩⟩⟩⟩
def nuO (σ : Sto) (r : Option Nat) : Int32 := match r with
  | none => -1
  | some a => gi σ a 0
theorem X_numberOf {d : Nat} {σ : Sto} {r : Option Nat} {K : Int32 → Sto → Prop} (hr : ∀ a, r = some a → okO σ a 1) (h : K (nuO σ r) σ) : CI d 92 [aR r] σ K := by
  refine CI_of ?_
  show Ev (d, 0, 0) 92 0 [aR r] [] σ _
  cases r with
  | none => simp only [z10, z00, not_true_eq_false, not_false_eq_true, false_implies, true_implies, implies_true, nI_1, Int32.add_zero, true_or, or_true, true_and, and_true, eI_eq, eL_eq, eR_eq, eV_eq, lg_cmp_ge, lg_cmp_le, lg_cmp_gt, lg_cmp_lt, lg_cmp_eq, v_92_0, v_92_1, v_92_4, v_92_5, v_92_8, v_92_9, v_92_12, reduceCtorEq]; exact h
  | some a => simp only [z10, z00, not_true_eq_false, not_false_eq_true, false_implies, true_implies, implies_true, nI_1, Int32.add_zero, true_or, or_true, true_and, and_true, eI_eq, eL_eq, eR_eq, eV_eq, lg_cmp_ge, lg_cmp_le, lg_cmp_gt, lg_cmp_lt, lg_cmp_eq, v_92_0, v_92_1, v_92_4, v_92_5, v_92_8, v_92_9, v_92_12, reduceCtorEq, hr a rfl]; exact h
theorem X_negated {d : Nat} {σ : Sto} {v : Int64} {K : Int64 → Sto → Prop} (h : K (if v = -9223372036854775808 then -9223372036854775808 else -v) σ) : CL d 93 [aL v] σ K := by
  refine CL_of ?_
  show Ev (d, 0, 0) 93 0 [aL v, aU] [] σ _
  simp only [z10, z00, not_true_eq_false, not_false_eq_true, false_implies, true_implies, implies_true, nI_1, Int32.add_zero, true_or, or_true, true_and, and_true, eI_eq, eL_eq, eR_eq, eV_eq, lg_cmp_ge, lg_cmp_le, lg_cmp_gt, lg_cmp_lt, lg_cmp_eq, v_93_0, v_93_1, v_93_4, v_93_5, v_93_8, v_93_11, v_93_14, v_93_15, v_93_16]
  exact ⟨fun c => by simpa [c] using h, fun c => by simpa [c] using h⟩
theorem X_traceAt {d : Nat} {σ : Sto} {x : Int32} {K : Option Nat → Sto → Prop} (hX : XB σ) (h0 : (x < 0 ∨ 20 ≤ x) → K none σ) (h1 : ∀ t, t < 20 → x = nI t → K (some (28 + 2 * t)) σ) : CR d 94 [aR (some 1), aI x] σ K := by
  refine CR_of ?_
  show Ev (d, 0, 0) 94 0 [aR (some 1), aI x] [] σ _
  simp only [z10, z00, not_true_eq_false, not_false_eq_true, false_implies, true_implies, implies_true, nI_1, Int32.add_zero, true_or, or_true, true_and, and_true, eI_eq, eL_eq, eR_eq, eV_eq, lg_cmp_ge, lg_cmp_le, lg_cmp_gt, lg_cmp_lt, lg_cmp_eq, v_94_0, v_94_1, v_94_4, v_94_5, v_94_7, v_94_10, v_94_11, v_94_14, v_94_15, v_94_18, v_94_19, v_94_20, hX.o1, hX.r1_0]
  refine ⟨fun c => h0 (Or.inl c), fun c => ⟨fun c2 => ?_, fun c2 => h0 (Or.inr (Int32.not_lt.mp c2))⟩⟩
  obtain ⟨t, ht, rfl⟩ := ix_of (n := 20) (by decide) c (Int32.not_le.mpr c2)
  have hc : (nI t).toNatClampNeg = t := nI_clamp (by omega)
  simp only [hX.a2 ht, hc, hX.tr ht, z10, z00, not_true_eq_false, not_false_eq_true, false_implies, true_implies, implies_true, true_and, and_true, true_or, or_true, false_and, and_false, false_or, or_false]
  exact h1 t ht rfl
theorem X_spanAt {d : Nat} {σ : Sto} {x : Int32} {t : Nat} {L : Nat → List Nat} {K : Option Nat → Sto → Prop} (hI : XI σ L) (ht : t < 20) (h : ∀ σ', XQ σ σ' → XI σ' L → SET σ' (L t) → K ((L t).find? (nuX σ x)) σ') : CR (d + 2) 95 [aR (some (28 + 2 * t)), aI x] σ K := by
  refine CR_of ?_
  show Ev (d + 2, 0, 0) 95 0 [aR (some (28 + 2 * t)), aI x] [] σ _
  simp only [z10, z00, not_true_eq_false, not_false_eq_true, false_implies, true_implies, implies_true, nI_1, Int32.add_zero, true_or, or_true, true_and, and_true, eI_eq, eL_eq, eR_eq, eV_eq, lg_cmp_ge, lg_cmp_le, lg_cmp_gt, lg_cmp_lt, lg_cmp_eq, v_95_0, v_95_1, v_95_4, v_95_5, v_95_6, v_95_7, v_95_10, v_95_11, v_95_12, v_95_15, reduceCtorEq, hI.xb.oT ht]
  refine X_settle (hI.t ht) (fun σ' h1 h2 h3 => ?_)
  have hI' := hI.set ht h1 h2
  have hq := XQ.s ht (hI.g ht) h1
  simp only [hI'.xb.oT ht, z10, z00, not_true_eq_false, not_false_eq_true, false_implies, true_implies, implies_true, true_and, and_true, true_or, or_true, false_and, and_false, false_or, or_false]
  refine X_find h2.1 h2.2.2.1 h2.2.2.2.1 ?_
  have e : (L t).find? (nuX σ' x) = (L t).find? (nuX σ x) := find_congr (fun a ha => by
    unfold nuX
    rw [hq.2.2.2.1 a 0 (hI.g ht a ha) (by decide)])
  rw [e]
  exact h σ' hq hI' h3
theorem X_spanAt0 {d : Nat} {σ : Sto} {x : Int32} {K : Option Nat → Sto → Prop} (h : K none σ) : CR d 95 [aR none, aI x] σ K := by
  refine CR_of ?_
  show Ev (d, 0, 0) 95 0 [aR none, aI x] [] σ _
  simp only [z10, z00, not_true_eq_false, not_false_eq_true, false_implies, true_implies, implies_true, nI_1, Int32.add_zero, true_or, or_true, true_and, and_true, eI_eq, eL_eq, eR_eq, eV_eq, lg_cmp_ge, lg_cmp_le, lg_cmp_gt, lg_cmp_lt, lg_cmp_eq, v_95_0, v_95_1, v_95_4, v_95_5, v_95_6, v_95_7, v_95_10, v_95_11, v_95_12, v_95_15, reduceCtorEq]
  exact h
