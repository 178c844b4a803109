/-! the reference: finding, parents, roots -/
abbrev Rw : Type := Int32 × Int32 × Int32 × Int32 × Int32 × Int32 × Int32 × Int64 × Int64
def rT (r : Rw) : Int32 := r.1
def rN (r : Rw) : Int32 := r.2.1
def rP (r : Rw) : Int32 := r.2.2.1
def rV (r : Rw) : Int32 := r.2.2.2.1
def rC (r : Rw) : Int32 := r.2.2.2.2.1
def rK (r : Rw) : Int32 := r.2.2.2.2.2.1
def rF (r : Rw) : Int32 := r.2.2.2.2.2.2.1
def rB (r : Rw) : Int64 := r.2.2.2.2.2.2.2.1
def rE (r : Rw) : Int64 := r.2.2.2.2.2.2.2.2
def rwM (σ : Sto) (k : Nat) : Rw := (gi σ 69 k, gi σ 70 k, gi σ 71 k, gi σ 72 k, gi σ 73 k, gi σ 74 k, gi σ 75 k, gl σ 76 k, gl σ 77 k)
def rws (σ : Sto) : Nat → Nat → List Rw
  | _, 0 => []
  | k, n + 1 => rwM σ k :: rws σ (k + 1) n
theorem rws_len (σ : Sto) : ∀ n k, (rws σ k n).length = n
  | 0, _ => rfl
  | n + 1, k => by rw [rws, List.length_cons, rws_len σ n (k + 1)]
theorem rws_get (σ : Sto) : ∀ n k j, j < n → (rws σ k n)[j]? = some (rwM σ (k + j))
  | 0, _, j, h => by omega
  | n + 1, k, 0, h => rfl
  | n + 1, k, j + 1, h => by
    rw [rws, List.getElem?_cons_succ, rws_get σ n (k + 1) j (by omega), show k + 1 + j = k + (j + 1) by omega]
def fIx (p : Rw → Bool) : Nat → List Rw → Option Nat
  | _, [] => none
  | k, r :: l => if p r then some k else fIx p (k + 1) l
theorem fIx_lt (p : Rw → Bool) : ∀ (l : List Rw) (k i : Nat), fIx p k l = some i → k ≤ i ∧ i < k + l.length
  | [], k, i, h => by cases h
  | r :: l, k, i, h => by
    unfold fIx at h
    split at h
    · cases h; simp
    · have := fIx_lt p l (k + 1) i h
      simp only [List.length_cons]; omega
def key (t n : Int32) (r : Rw) : Bool := decide (rT r = t ∧ rN r = n)
def bI (b : Bool) : Int32 := if b then 1 else 0
theorem M_isTrace {d : Nat} {σ : Sto} {t : Int32} {K : Int32 → Sto → Prop} (h0 : (t < 0 ∨ 20 ≤ t) → K 0 σ) (h1 : ¬ t < 0 → ¬ 20 ≤ t → K 1 σ) : CI d 106 [aR (some 68), aI t] σ K := by
  refine CI_of ?_
  show Ev (d, 0, 0) 106 0 [aR (some 68), aI t] [] σ _
  simp only [z10, z00, not_true_eq_false, not_false_eq_true, false_implies, true_implies, implies_true, nI_1, Int32.add_zero, true_or, or_true, true_and, and_true, eI_eq, eL_eq, eR_eq, eV_eq, lg_cmp_ge, lg_cmp_le, lg_cmp_gt, lg_cmp_lt, lg_cmp_eq, v_106_0, v_106_1, v_106_4, v_106_5, v_106_7, v_106_10, v_106_11, v_106_14, v_106_15]
  exact ⟨fun c => h0 (Or.inl c), fun c => ⟨fun c2 => h0 (Or.inr c2), fun c2 => h1 c c2⟩⟩
theorem M_isService {d : Nat} {σ : Sto} {t : Int32} {K : Int32 → Sto → Prop} (h0 : (t < 0 ∨ 6 ≤ t) → K 0 σ) (h1 : ¬ t < 0 → ¬ 6 ≤ t → K 1 σ) : CI d 107 [aR (some 68), aI t] σ K := by
  refine CI_of ?_
  show Ev (d, 0, 0) 107 0 [aR (some 68), aI t] [] σ _
  simp only [z10, z00, not_true_eq_false, not_false_eq_true, false_implies, true_implies, implies_true, nI_1, Int32.add_zero, true_or, or_true, true_and, and_true, eI_eq, eL_eq, eR_eq, eV_eq, lg_cmp_ge, lg_cmp_le, lg_cmp_gt, lg_cmp_lt, lg_cmp_eq, v_107_0, v_107_1, v_107_4, v_107_5, v_107_7, v_107_10, v_107_11, v_107_14, v_107_15]
  exact ⟨fun c => h0 (Or.inl c), fun c => ⟨fun c2 => h0 (Or.inr c2), fun c2 => h1 c c2⟩⟩
theorem M_isAct {d : Nat} {σ : Sto} {t : Int32} {K : Int32 → Sto → Prop} (h0 : (t < 0 ∨ 8 ≤ t) → K 0 σ) (h1 : ¬ t < 0 → ¬ 8 ≤ t → K 1 σ) : CI d 108 [aR (some 68), aI t] σ K := by
  refine CI_of ?_
  show Ev (d, 0, 0) 108 0 [aR (some 68), aI t] [] σ _
  simp only [z10, z00, not_true_eq_false, not_false_eq_true, false_implies, true_implies, implies_true, nI_1, Int32.add_zero, true_or, or_true, true_and, and_true, eI_eq, eL_eq, eR_eq, eV_eq, lg_cmp_ge, lg_cmp_le, lg_cmp_gt, lg_cmp_lt, lg_cmp_eq, v_108_0, v_108_1, v_108_4, v_108_5, v_108_7, v_108_10, v_108_11, v_108_14, v_108_15]
  exact ⟨fun c => h0 (Or.inl c), fun c => ⟨fun c2 => h0 (Or.inr c2), fun c2 => h1 c c2⟩⟩
theorem M_find_loop {b : B3} {σ : Sto} {t x : Int32} {K : Int32 → Sto → Prop} {S : Nat} (hM : MB σ S) : ∀ (n k : Nat), k + n = S → K (ofN (fIx (key t x) k (rws σ k n))) σ → Ev b 109 2 [aR (some 68), aI t, aI x, aI (nI k)] [] σ (eI K) := by
  intro n
  induction n with
  | zero =>
    intro k hk h
    have hk' : k = S := by omega
    subst hk'
    have hle : nI k ≤ nI k := Int32.le_refl _
    rw [v_109_2]
    simp only [z10, z00, not_true_eq_false, not_false_eq_true, false_implies, true_implies, implies_true, nI_1, Int32.add_zero, true_or, or_true, true_and, and_true, eI_eq, eL_eq, eR_eq, eV_eq, lg_cmp_ge, lg_cmp_le, lg_cmp_gt, lg_cmp_lt, lg_cmp_eq, v_109_0, v_109_1, v_109_3, v_109_4, v_109_7, v_109_10, v_109_11, v_109_14, v_109_15, v_109_16, v_109_17, v_109_20, v_109_21, v_109_24, v_109_25, v_109_26, v_109_27, v_109_30, v_109_31, v_109_32, v_109_35, v_109_38, v_109_39, hM.o, hM.n, hle]
    exact h
  | succ n ih =>
    intro k hk h
    have hS := hM.c
    have hle : ¬ nI S ≤ nI k := nI_ge (by omega) (by omega)
    have hc : (nI k).toNatClampNeg = k := nI_clamp (by omega)
    rw [v_109_2]
    simp only [z10, z00, not_true_eq_false, not_false_eq_true, false_implies, true_implies, implies_true, nI_1, Int32.add_zero, true_or, or_true, true_and, and_true, eI_eq, eL_eq, eR_eq, eV_eq, lg_cmp_ge, lg_cmp_le, lg_cmp_gt, lg_cmp_lt, lg_cmp_eq, v_109_0, v_109_1, v_109_3, v_109_4, v_109_7, v_109_10, v_109_11, v_109_14, v_109_15, v_109_16, v_109_17, v_109_20, v_109_21, v_109_24, v_109_25, v_109_26, v_109_27, v_109_30, v_109_31, v_109_32, v_109_35, v_109_38, v_109_39, hM.o, hM.n, hM.r1, hM.r2, hM.x69 (k := k) (by omega), hM.x70 (k := k) (by omega), hle, hc]
    simp only [rws, fIx, key, rT, rN, rwM] at h
    refine ⟨fun c => ih (k + 1) (by omega) (by simpa [c, key, rT, rN] using h), fun c => ⟨fun c2 => ih (k + 1) (by omega) (by simpa [c, c2, key, rT, rN] using h), fun c2 => by simpa [c, c2, ofN] using h⟩⟩
theorem M_find {d : Nat} {σ : Sto} {t x : Int32} {K : Int32 → Sto → Prop} {S : Nat} (hM : MB σ S) (h : K (ofN (fIx (key t x) 0 (rws σ 0 S))) σ) : CI d 109 [aR (some 68), aI t, aI x] σ K := by
  refine CI_of ?_
  show Ev (d, 0, 0) 109 0 [aR (some 68), aI t, aI x, aU] [] σ _
  simp only [z10, z00, not_true_eq_false, not_false_eq_true, false_implies, true_implies, implies_true, nI_1, Int32.add_zero, true_or, or_true, true_and, and_true, eI_eq, eL_eq, eR_eq, eV_eq, lg_cmp_ge, lg_cmp_le, lg_cmp_gt, lg_cmp_lt, lg_cmp_eq, v_109_0, v_109_1, v_109_3, v_109_4, v_109_7, v_109_10, v_109_11, v_109_14, v_109_15, v_109_16, v_109_17, v_109_20, v_109_21, v_109_24, v_109_25, v_109_26, v_109_27, v_109_30, v_109_31, v_109_32, v_109_35, v_109_38, v_109_39]
  exact M_find_loop hM S 0 (by omega) h
theorem M_spans_loop {b : B3} {σ : Sto} {t : Int32} {K : Int32 → Sto → Prop} {S : Nat} (hM : MB σ S) : ∀ (n k c : Nat), k + n = S → K (nI (c + (rws σ k n).countP (fun r => decide (rT r = t)))) σ → Ev b 112 14 [aR (some 68), aI t, aI (nI c), aI (nI k)] [] σ (eI K) := by
  intro n
  induction n with
  | zero =>
    intro k c hk h
    have hk' : k = S := by omega
    subst hk'
    have hle : nI k ≤ nI k := Int32.le_refl _
    rw [v_112_14]
    simp only [z10, z00, not_true_eq_false, not_false_eq_true, false_implies, true_implies, implies_true, nI_1, Int32.add_zero, true_or, or_true, true_and, and_true, eI_eq, eL_eq, eR_eq, eV_eq, lg_cmp_ge, lg_cmp_le, lg_cmp_gt, lg_cmp_lt, lg_cmp_eq, v_112_0, v_112_1, v_112_2, v_112_5, v_112_8, v_112_9, v_112_10, v_112_11, v_112_12, v_112_13, v_112_15, v_112_16, v_112_19, v_112_22, v_112_23, v_112_24, v_112_27, v_112_28, v_112_29, v_112_30, v_112_33, v_112_34, v_112_37, v_112_38, v_112_39, v_112_40, v_112_43, v_112_46, v_112_47, hM.o, hM.n, hle]
    exact h
  | succ n ih =>
    intro k c hk h
    have hS := hM.c
    have hle : ¬ nI S ≤ nI k := nI_ge (by omega) (by omega)
    have hc : (nI k).toNatClampNeg = k := nI_clamp (by omega)
    rw [v_112_14]
    simp only [z10, z00, not_true_eq_false, not_false_eq_true, false_implies, true_implies, implies_true, nI_1, Int32.add_zero, true_or, or_true, true_and, and_true, eI_eq, eL_eq, eR_eq, eV_eq, lg_cmp_ge, lg_cmp_le, lg_cmp_gt, lg_cmp_lt, lg_cmp_eq, v_112_0, v_112_1, v_112_2, v_112_5, v_112_8, v_112_9, v_112_10, v_112_11, v_112_12, v_112_13, v_112_15, v_112_16, v_112_19, v_112_22, v_112_23, v_112_24, v_112_27, v_112_28, v_112_29, v_112_30, v_112_33, v_112_34, v_112_37, v_112_38, v_112_39, v_112_40, v_112_43, v_112_46, v_112_47, hM.o, hM.n, hM.r1, hM.x69 (k := k) (by omega), hle, hc]
    rw [rws, List.countP_cons] at h
    refine ⟨fun g => ih (k + 1) _ (by omega) (by simpa [rT, rwM, g] using h), fun g => ?_⟩
    · exact ih (k + 1) _ (by omega) (by simpa [rT, rwM, g, Nat.add_assoc, Nat.add_comm 1] using h)
theorem M_spans {d : Nat} {σ : Sto} {t : Int32} {K : Int32 → Sto → Prop} {S : Nat} (hM : MB σ S) (h1 : (t < 0 ∨ 20 ≤ t) → K (-1) σ) (h2 : ¬ t < 0 → ¬ 20 ≤ t → K (nI ((rws σ 0 S).countP (fun r => decide (rT r = t)))) σ) : CI (d + 1) 112 [aR (some 68), aI t] σ K := by
  refine CI_of ?_
  show Ev (d + 1, 0, 0) 112 0 [aR (some 68), aI t, aU, aU] [] σ _
  simp only [z10, z00, not_true_eq_false, not_false_eq_true, false_implies, true_implies, implies_true, nI_1, Int32.add_zero, true_or, or_true, true_and, and_true, eI_eq, eL_eq, eR_eq, eV_eq, lg_cmp_ge, lg_cmp_le, lg_cmp_gt, lg_cmp_lt, lg_cmp_eq, v_112_0, v_112_1, v_112_2, v_112_5, v_112_8, v_112_9, v_112_10, v_112_11, v_112_12, v_112_13, v_112_15, v_112_16, v_112_19, v_112_22, v_112_23, v_112_24, v_112_27, v_112_28, v_112_29, v_112_30, v_112_33, v_112_34, v_112_37, v_112_38, v_112_39, v_112_40, v_112_43, v_112_46, v_112_47, hM.o]
  refine M_isTrace (fun c => ?_) (fun c1 c2 => ?_)
  · simp only [z10, z00, not_true_eq_false, not_false_eq_true, false_implies, true_implies, implies_true, true_and, and_true, true_or, or_true, false_and, and_false, false_or, or_false]
    exact h1 c
  · simp only [z10, z00, not_true_eq_false, not_false_eq_true, false_implies, true_implies, implies_true, true_and, and_true, true_or, or_true, false_and, and_false, false_or, or_false]
    simpa only [nI_0] using M_spans_loop hM S 0 0 (by omega) (by simpa using h2 c1 c2)
/-- the parent's place -/
def upI (R : List Rw) (r : Rw) : Option Nat := if rP r = 0 then none else fIx (key (rT r) (rP r)) 0 R
theorem M_above {d : Nat} {σ : Sto} {k : Nat} {K : Int32 → Sto → Prop} {S : Nat} (hM : MB σ S) (hk : k < S) (h : K (ofN (upI (rws σ 0 S) (rwM σ k))) σ) : CI (d + 1) 113 [aR (some 68), aI (nI k)] σ K := by
  have hS := hM.c
  have hc : (nI k).toNatClampNeg = k := nI_clamp (by omega)
  refine CI_of ?_
  show Ev (d + 1, 0, 0) 113 0 [aR (some 68), aI (nI k)] [] σ _
  simp only [z10, z00, not_true_eq_false, not_false_eq_true, false_implies, true_implies, implies_true, nI_1, Int32.add_zero, true_or, or_true, true_and, and_true, eI_eq, eL_eq, eR_eq, eV_eq, lg_cmp_ge, lg_cmp_le, lg_cmp_gt, lg_cmp_lt, lg_cmp_eq, v_113_0, v_113_1, v_113_4, v_113_5, v_113_6, v_113_9, v_113_10, v_113_13, v_113_14, v_113_15, v_113_18, v_113_19, v_113_20, v_113_21, v_113_24, v_113_25, v_113_26, v_113_29, hM.o, hM.r1, hM.r3, hM.x69 (k := k) (by omega), hM.x71 (k := k) (by omega), hc]
  simp only [upI, rP, rT, rwM] at h
  refine ⟨fun g => M_find hM ?_, fun g => ?_⟩
  · simpa [g] using h
  · simpa [g, ofN] using h
theorem ofN_neg {r : Option Nat} (h : ∀ k, r = some k → k < 2 ^ 31) : ofN r < 0 ↔ r = none := by
  cases r with
  | none => simp [ofN]
  | some k =>
    simp only [ofN, reduceCtorEq, iff_false]
    exact nI_pos (h k rfl)
theorem ofN_nn {r : Option Nat} (h : ∀ k, r = some k → k < 2 ^ 31) : 0 ≤ ofN r ↔ ¬ r = none := by
  rw [← ofN_neg h, Int32.not_lt]
theorem upI_lt {R : List Rw} {r : Rw} {i : Nat} (h : upI R r = some i) : i < R.length := by
  unfold upI at h
  split at h
  · cases h
  · have := fIx_lt _ _ _ _ h
    omega
theorem upI_small {σ : Sto} {S : Nat} (hM : MB σ S) {r : Rw} : ∀ k, upI (rws σ 0 S) r = some k → k < 2 ^ 31 := fun k h => by
  have := upI_lt h
  rw [rws_len] at this
  have := hM.c
  omega
theorem rT_M (σ : Sto) (k : Nat) : rT (rwM σ k) = gi σ 69 k := rfl
theorem rN_M (σ : Sto) (k : Nat) : rN (rwM σ k) = gi σ 70 k := rfl
theorem rP_M (σ : Sto) (k : Nat) : rP (rwM σ k) = gi σ 71 k := rfl
theorem rV_M (σ : Sto) (k : Nat) : rV (rwM σ k) = gi σ 72 k := rfl
theorem rC_M (σ : Sto) (k : Nat) : rC (rwM σ k) = gi σ 73 k := rfl
theorem rK_M (σ : Sto) (k : Nat) : rK (rwM σ k) = gi σ 74 k := rfl
theorem rF_M (σ : Sto) (k : Nat) : rF (rwM σ k) = gi σ 75 k := rfl
theorem rB_M (σ : Sto) (k : Nat) : rB (rwM σ k) = gl σ 76 k := rfl
theorem rE_M (σ : Sto) (k : Nat) : rE (rwM σ k) = gl σ 77 k := rfl
/-- the depth that was looked for latest is written -/
def dp (σ : Sto) (v : Int32) : Sto := si σ 68 18 v
theorem dp_dp (σ : Sto) (v w : Int32) : dp (dp σ v) w = dp σ w := si_si _ _ _ _ _
theorem dp_self (σ : Sto) : dp σ (gi σ 68 18) = σ := si_self _ _ _
theorem rwM_dp (σ : Sto) (v : Int32) : rwM (dp σ v) = rwM σ := rfl
theorem rws_dp (σ : Sto) (v : Int32) : ∀ n k, rws (dp σ v) k n = rws σ k n
  | 0, _ => rfl
  | n + 1, k => by rw [rws, rws, rws_dp σ v n (k + 1)]; rfl
theorem MB.dp {σ : Sto} {S : Nat} (h : MB σ S) (v : Int32) : MB (dp σ v) S := h
theorem gi_dp (σ : Sto) (v : Int32) : gi (dp σ v) 68 18 = v := by
  unfold dp
  rw [gi_si]
  simp [up1]
theorem M_isHoled {d : Nat} {σ : Sto} {k : Nat} {K : Int32 → Sto → Prop} {S : Nat} (hM : MB σ S) (hk : k < S) (h1 : ¬ rP (rwM σ k) = 0 → upI (rws σ 0 S) (rwM σ k) = none → K 1 σ) (h0 : ¬ (¬ rP (rwM σ k) = 0 ∧ upI (rws σ 0 S) (rwM σ k) = none) → K 0 σ) : CI (d + 2) 114 [aR (some 68), aI (nI k)] σ K := by
  have hS := hM.c
  have hc : (nI k).toNatClampNeg = k := nI_clamp (by omega)
  refine CI_of ?_
  show Ev (d + 2, 0, 0) 114 0 [aR (some 68), aI (nI k)] [] σ _
  simp only [z10, z00, not_true_eq_false, not_false_eq_true, false_implies, true_implies, implies_true, nI_1, Int32.add_zero, true_or, or_true, true_and, and_true, eI_eq, eL_eq, eR_eq, eV_eq, lg_cmp_ge, lg_cmp_le, lg_cmp_gt, lg_cmp_lt, lg_cmp_eq, v_114_0, v_114_1, v_114_4, v_114_5, v_114_6, v_114_9, v_114_10, v_114_11, v_114_14, v_114_17, v_114_18, v_114_21, v_114_22, hM.o, hM.r3, hM.x71 (k := k) (by omega), hc]
  refine ⟨fun g => h0 (fun q => q.1 g), fun g => M_above hM hk ?_⟩
  simp only [ofN_nn (upI_small hM)]
  exact ⟨fun g2 => h0 (fun q => g2 q.2), fun g2 => h1 g (Classical.not_not.mp g2)⟩
/-- going up: where one comes to, and how many steps -/
def clI (u : Nat → Option Nat) : Nat → Nat → Nat → Nat × Nat
  | 0, a, d => (a, d)
  | f + 1, a, d => match u a with
    | none => (a, d)
    | some b => clI u f b (d + 1)
def deI (u : Nat → Option Nat) (k : Nat) : Nat := (clI u 31 k 0).2
def roI (u : Nat → Option Nat) (k : Nat) : Option Nat := if 30 < deI u k then none else some (clI u 31 k 0).1
def uM (σ : Sto) (S : Nat) (k : Nat) : Option Nat := upI (rws σ 0 S) (rwM σ k)
theorem uM_dp (σ : Sto) (S : Nat) (v : Int32) : uM (dp σ v) S = uM σ S := by
  funext k
  unfold uM
  rw [rws_dp, rwM_dp]
theorem uM_lt {σ : Sto} {S k i : Nat} (h : uM σ S k = some i) : i < S := by
  have := upI_lt h
  rwa [rws_len] at this
theorem clI_lt {σ : Sto} {S : Nat} : ∀ f a d, a < S → (clI (uM σ S) f a d).1 < S
  | 0, a, d, h => h
  | f + 1, a, d, h => by
    unfold clI
    cases hu : uM σ S a with
    | none => exact h
    | some b => exact clI_lt f b (d + 1) (uM_lt hu)
theorem roI_lt {σ : Sto} {S k i : Nat} (hk : k < S) (h : roI (uM σ S) k = some i) : i < S := by
  unfold roI at h
  split at h
  · cases h
  · cases h
    exact clI_lt 31 k 0 hk
theorem M_rootOf_loop {d0 : Nat} {σ : Sto} {k0 : Int32} {K : Int32 → Sto → Prop} {S : Nat} (hM : MB σ S) : ∀ (f a d : Nat), d + f = 31 → a < S → K (if 30 < (clI (uM σ S) f a d).2 then -1 else nI (clI (uM σ S) f a d).1) (dp σ (nI (clI (uM σ S) f a d).2)) → Ev (d0 + 2, 0, 0) 115 7 [aR (some 68), aI k0, aI (nI a)] [] (dp σ (nI d)) (eI K) := by
  intro f
  induction f with
  | zero =>
    intro a d hd ha h
    have hd' : d = 31 := by omega
    subst hd'
    rw [v_115_7]
    have c1 : (30 : Int32) < nI 31 := by decide
    have c2 : ¬ nI 31 ≤ (30 : Int32) := by decide
    simp only [z10, z00, not_true_eq_false, not_false_eq_true, false_implies, true_implies, implies_true, nI_1, Int32.add_zero, true_or, or_true, true_and, and_true, eI_eq, eL_eq, eR_eq, eV_eq, lg_cmp_ge, lg_cmp_le, lg_cmp_gt, lg_cmp_lt, lg_cmp_eq, v_115_0, v_115_1, v_115_2, v_115_3, v_115_4, v_115_8, v_115_11, v_115_13, v_115_16, v_115_17, v_115_18, v_115_21, v_115_24, v_115_25, v_115_26, v_115_29, v_115_30, v_115_31, v_115_32, v_115_35, v_115_36, v_115_37, v_115_40, v_115_43, v_115_44, v_115_47, v_115_49, v_115_52, v_115_53, v_115_56, v_115_57, (hM.dp (nI 31)).o, gi_dp, c1, c2]
    simpa [clI] using h
  | succ f ih =>
    intro a d hd ha h
    have c1 : ¬ (30 : Int32) < nI d := nI_nlt (a := 30) (b := d) (by omega) (by omega)
    have c2 : nI d ≤ (30 : Int32) := nI_le (a := d) (b := 30) (by omega) (by omega)
    rw [v_115_7]
    simp only [z10, z00, not_true_eq_false, not_false_eq_true, false_implies, true_implies, implies_true, nI_1, Int32.add_zero, true_or, or_true, true_and, and_true, eI_eq, eL_eq, eR_eq, eV_eq, lg_cmp_ge, lg_cmp_le, lg_cmp_gt, lg_cmp_lt, lg_cmp_eq, v_115_0, v_115_1, v_115_2, v_115_3, v_115_4, v_115_8, v_115_11, v_115_13, v_115_16, v_115_17, v_115_18, v_115_21, v_115_24, v_115_25, v_115_26, v_115_29, v_115_30, v_115_31, v_115_32, v_115_35, v_115_36, v_115_37, v_115_40, v_115_43, v_115_44, v_115_47, v_115_49, v_115_52, v_115_53, v_115_56, v_115_57, (hM.dp (nI d)).o, gi_dp, c1, c2]
    refine M_above (hM.dp _) ha ?_
    simp only [rws_dp, rwM_dp, ofN_neg (upI_small hM), (hM.dp (nI d)).o, gi_dp, c2, show ¬ (30 : Int32) < nI d from c1, z10, z00, not_true_eq_false, not_false_eq_true, false_implies, true_implies, implies_true, true_and, and_true, true_or, or_true, false_and, and_false, false_or, or_false]
    cases hu : uM σ S a with
    | none =>
      have hu' : upI (rws σ 0 S) (rwM σ a) = none := hu
      simp only [hu', z10, z00, not_true_eq_false, not_false_eq_true, false_implies, true_implies, implies_true, true_and, and_true, true_or, or_true, false_and, and_false, false_or, or_false]
      have e : clI (uM σ S) (f + 1) a d = (a, d) := by unfold clI; rw [hu]
      rw [e] at h
      simpa [show ¬ 30 < d by omega] using h
    | some b =>
      have hu' : upI (rws σ 0 S) (rwM σ a) = some b := hu
      simp only [hu', z10, z00, not_true_eq_false, not_false_eq_true, false_implies, true_implies, implies_true, true_and, and_true, true_or, or_true, false_and, and_false, false_or, or_false, reduceCtorEq]
      refine M_above (hM.dp _) ha ?_
      simp only [rws_dp, rwM_dp, hu', ofN, (hM.dp (nI d)).o, gi_dp, nI_1, z10, z00, not_true_eq_false, not_false_eq_true, false_implies, true_implies, implies_true, true_and, and_true, true_or, or_true, false_and, and_false, false_or, or_false]
      have e : clI (uM σ S) (f + 1) a d = clI (uM σ S) f b (d + 1) := by
        show (match uM σ S a with
          | none => (a, d)
          | some b => clI (uM σ S) f b (d + 1)) = _
        rw [hu]
      rw [e] at h
      have := ih b (d + 1) (by omega) (uM_lt hu) h
      show Ev _ _ _ _ _ (dp (dp σ (nI d)) (nI (d + 1))) _
      rw [dp_dp]
      exact this
theorem M_rootOf {d : Nat} {σ : Sto} {k : Nat} {K : Int32 → Sto → Prop} {S : Nat} (hM : MB σ S) (hk : k < S) (h : K (ofN (roI (uM σ S) k)) (dp σ (nI (deI (uM σ S) k)))) (v : Int32) : CI (d + 2) 115 [aR (some 68), aI (nI k)] (dp σ v) K := by
  refine CI_of ?_
  show Ev (d + 2, 0, 0) 115 0 [aR (some 68), aI (nI k), aU] [] (dp σ v) _
  simp only [z10, z00, not_true_eq_false, not_false_eq_true, false_implies, true_implies, implies_true, nI_1, Int32.add_zero, true_or, or_true, true_and, and_true, eI_eq, eL_eq, eR_eq, eV_eq, lg_cmp_ge, lg_cmp_le, lg_cmp_gt, lg_cmp_lt, lg_cmp_eq, v_115_0, v_115_1, v_115_2, v_115_3, v_115_4, v_115_8, v_115_11, v_115_13, v_115_16, v_115_17, v_115_18, v_115_21, v_115_24, v_115_25, v_115_26, v_115_29, v_115_30, v_115_31, v_115_32, v_115_35, v_115_36, v_115_37, v_115_40, v_115_43, v_115_44, v_115_47, v_115_49, v_115_52, v_115_53, v_115_56, v_115_57, (hM.dp v).o]
  have := M_rootOf_loop (d0 := d) (k0 := nI k) (K := K) hM 31 k 0 rfl hk (by
    unfold roI deI at h
    split at h <;> rename_i c
    · rw [if_pos c]; exact h
    · rw [if_neg c]; exact h)
  show Ev _ _ _ _ _ (dp (dp σ v) 0) _
  rw [dp_dp]
  simpa only [nI_0] using this
