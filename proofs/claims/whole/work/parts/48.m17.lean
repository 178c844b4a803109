/-! the reference: the latest part of a way -/
def beR (mv : Nat → Int64) (r : Rw) : Int64 := rB r + mv (rV r).toNatClampNeg
def enR (mv : Nat → Int64) (r : Rw) : Int64 := rE r + mv (rV r).toNatClampNeg
/-- whether a row may be on a way down from c, above f -/
def elR (mv : Nat → Int64) (c f : Int64) (r : Rw) : Bool := decide (¬ 2 < rK r ∧ ¬ rB r = rE r ∧ ¬ c < enR mv r ∧ f < enR mv r)
def btR (mv : Nat → Int64) (r q : Rw) : Bool := decide (enR mv q < enR mv r ∨ (enR mv r = enR mv q ∧ rN r < rN q))
def pk2 {α : Type} (bt : α → α → Bool) (k : α) : Option α → Option α
  | none => some k
  | some j => if bt k j then some k else some j
/-- the best of those at k, k + 1 .. -/
def bsF (p : Nat → Bool) (bt : Nat → Nat → Bool) : Nat → Nat → Option Nat → Option Nat
  | _, 0, b => b
  | k, n + 1, b => bsF p bt (k + 1) n (if p k then pk2 bt k b else b)
def elM (σ : Sto) (S x : Nat) (c f : Int64) (k : Nat) : Bool := kiB σ S x k && elR (gl σ 86) c f (rwM σ k)
def btM (σ : Sto) (k j : Nat) : Bool := btR (gl σ 86) (rwM σ k) (rwM σ j)
def nxM (σ : Sto) (S x : Nat) (c f : Int64) : Option Nat := bsF (elM σ S x c f) (btM σ) 0 S none
theorem M_next_loop {d : Nat} {σ : Sto} {K : Int32 → Sto → Prop} {S x : Nat} {c f : Int64} (hM : MB σ S) (hx : x < S) (hR : ∀ k, k < S → okR (rwM σ k)) : ∀ (n k : Nat) (b : Option Nat) (v : Int32), k + n = S → (∀ j, b = some j → j < S) → (∀ w, K (ofN (bsF (elM σ S x c f) (btM σ) k n b)) (dp σ w)) → Ev (d + 4, 0, 0) 144 6 [aR (some 68), aI (nI x), aL c, aU, aL f, aU, aI (ofN b), aI (nI k)] [] (dp σ v) (eI K) := by
  intro n
  induction n with
  | zero =>
    intro k b v hk hb h
    have hk' : k = S := by omega
    subst hk'
    have hle : nI k ≤ nI k := Int32.le_refl _
    rw [v_144_6]
    simp only [z10, z00, not_true_eq_false, not_false_eq_true, false_implies, true_implies, implies_true, nI_1, Int32.add_zero, true_or, or_true, true_and, and_true, eI_eq, eL_eq, eR_eq, eV_eq, lg_cmp_ge, lg_cmp_le, lg_cmp_gt, lg_cmp_lt, lg_cmp_eq, v_144_8, v_144_9, v_144_12, v_144_15, v_144_16, v_144_18, v_144_19, v_144_22, v_144_25, v_144_26, v_144_29, v_144_31, v_144_32, v_144_33, v_144_36, v_144_37, v_144_40, v_144_42, v_144_43, v_144_44, v_144_47, v_144_49, v_144_50, v_144_51, v_144_54, v_144_55, v_144_57, v_144_60, v_144_61, v_144_62, v_144_65, v_144_66, v_144_68, v_144_71, v_144_73, v_144_74, v_144_77, v_144_80, v_144_82, v_144_85, v_144_86, v_144_88, v_144_91, v_144_92, v_144_94, v_144_97, v_144_98, v_144_101, v_144_102, v_144_104, v_144_107, v_144_108, v_144_110, v_144_113, v_144_114, v_144_117, v_144_118, v_144_121, v_144_123, v_144_124, v_144_125, v_144_128, v_144_130, v_144_131, v_144_134, v_144_136, v_144_138, v_144_141, v_144_144, v_144_146, (hM.dp v).o, (hM.dp v).n, hle]
    exact h v
  | succ n ih =>
    intro k b v hk hb h
    have hS := hM.c
    have hle : ¬ nI S ≤ nI k := nI_ge (by omega) (by omega)
    have hc : (nI k).toNatClampNeg = k := nI_clamp (by omega)
    have hkS : k < S := by omega
    have hsmall : ∀ j, b = some j → j < 2 ^ 31 := fun j e => by have := hb j e; omega
    have skip : ∀ w, elM σ S x c f k = false → Ev (d + 4, 0, 0) 144 6 [aR (some 68), aI (nI x), aL c, aU, aL f, aU, aI (ofN b), aI (nI (k + 1))] [] (dp σ w) (eI K) := fun w e => ih (k + 1) b w (by omega) hb (by simpa [bsF, e] using h)
    rw [v_144_6]
    simp only [z10, z00, not_true_eq_false, not_false_eq_true, false_implies, true_implies, implies_true, nI_1, Int32.add_zero, true_or, or_true, true_and, and_true, eI_eq, eL_eq, eR_eq, eV_eq, lg_cmp_ge, lg_cmp_le, lg_cmp_gt, lg_cmp_lt, lg_cmp_eq, v_144_8, v_144_9, v_144_12, v_144_15, v_144_16, v_144_18, v_144_19, v_144_22, v_144_138, v_144_141, (hM.dp v).o, (hM.dp v).n, hle]
    refine M_isKid hM hkS hx (fun w => ?_) v
    cases hki : kiB σ S x k with
    | false =>
      simp only [bI, Bool.false_eq_true, if_false, z10, z00, not_true_eq_false, not_false_eq_true, false_implies, true_implies, implies_true, true_and, and_true, true_or, or_true, false_and, and_false, false_or, or_false]
      exact skip w (by simp [elM, hki])
    | true =>
      have eL : elM σ S x c f k = elR (gl σ 86) c f (rwM σ k) := by simp [elM, hki]
      have hMw := hM.dp w
      have gl_d : ∀ a, gl (dp σ w) a = gl σ a := fun _ => rfl
      have gi_d : ∀ a j, a ≠ 68 → gi (dp σ w) a j = gi σ a j := fun a j e => by unfold dp; rw [gi_si_r, if_neg e]
      simp only [bI, if_true, z10, z00, not_true_eq_false, not_false_eq_true, false_implies, true_implies, implies_true, nI_1, Int32.add_zero, true_or, or_true, true_and, and_true, eI_eq, eL_eq, eR_eq, eV_eq, lg_cmp_ge, lg_cmp_le, lg_cmp_gt, lg_cmp_lt, lg_cmp_eq, v_144_25, v_144_26, v_144_29, v_144_31, v_144_32, v_144_33, v_144_36, v_144_37, v_144_40, v_144_42, v_144_43, v_144_44, v_144_47, v_144_49, v_144_50, v_144_51, v_144_54, v_144_55, v_144_57, v_144_138, v_144_141, hMw.o, hMw.r6, hMw.r8, hMw.r9, hMw.x74 (k := k) (by omega), hMw.a76 (k := k) (by omega), hMw.a77 (k := k) (by omega), hc, gl_d, gi_d 74 k (by decide), z10, z00, not_true_eq_false, not_false_eq_true, false_implies, true_implies, implies_true, true_and, and_true, true_or, or_true, false_and, and_false, false_or, or_false]
      refine ⟨fun g => skip w (by rw [eL]; simp [elR, rK_M, g]), fun g => ⟨fun g2 => skip w (by rw [eL]; simp [elR, rB_M, rE_M, g2]), fun g2 => ?_⟩⟩
      have hV : okV (rwM (dp σ w) k) := (hR k hkS).v
      refine M_endOf hMw hkS hV ?_
      have e1 : rE (rwM (dp σ w) k) + gl (dp σ w) 86 (rV (rwM (dp σ w) k)).toNatClampNeg = enR (gl σ 86) (rwM σ k) := rfl
      rw [e1]
      simp only [z10, z00, not_true_eq_false, not_false_eq_true, false_implies, true_implies, implies_true, nI_1, Int32.add_zero, true_or, or_true, true_and, and_true, eI_eq, eL_eq, eR_eq, eV_eq, lg_cmp_ge, lg_cmp_le, lg_cmp_gt, lg_cmp_lt, lg_cmp_eq, v_144_60, v_144_61, v_144_62, v_144_65, v_144_66, v_144_68, v_144_138, v_144_141, hMw.o]
      refine ⟨fun g3 => skip w (by rw [eL]; simp [elR, g3]), fun g3 => M_endOf hMw hkS hV ?_⟩
      rw [e1]
      simp only [z10, z00, not_true_eq_false, not_false_eq_true, false_implies, true_implies, implies_true, nI_1, Int32.add_zero, true_or, or_true, true_and, and_true, eI_eq, eL_eq, eR_eq, eV_eq, lg_cmp_ge, lg_cmp_le, lg_cmp_gt, lg_cmp_lt, lg_cmp_eq, v_144_71, v_144_73, v_144_74, v_144_77, v_144_80, v_144_82, v_144_85, v_144_86, v_144_88, v_144_138, v_144_141, hMw.o]
      refine ⟨fun g4 => ?_, fun g4 => skip w (by rw [eL]; simp [elR, g4])⟩
      have eT : elM σ S x c f k = true := by
        rw [eL]
        simp only [elR, decide_eq_true_eq]
        exact ⟨g, g2, g3, g4⟩
      have take : pk2 (btM σ) k b = some k → Ev (d + 4, 0, 0) 144 6 [aR (some 68), aI (nI x), aL c, aU, aL f, aU, aI (nI k), aI (nI (k + 1))] [] (dp σ w) (eI K) := by
        intro e
        refine ih (k + 1) (some k) w (by omega) (fun j q => by cases q; exact hkS) (fun w' => ?_)
        have := h w'
        rw [bsF, if_pos eT, e] at this
        exact this
      simp only [ofN_neg hsmall]
      refine ⟨fun g5 => ?_, fun g5 => ?_⟩
      · simp only [v_144_134, v_144_136, v_144_138, v_144_141, nI_1]
        exact take (by rw [g5]; rfl)
      · cases hb' : b with
        | none => exact absurd hb' g5
        | some j =>
          have hjS := hb j hb'
          have hcj : (nI j).toNatClampNeg = j := nI_clamp (by omega)
          rw [hb'] at take h
          have stay : btM σ k j = false → Ev (d + 4, 0, 0) 144 6 [aR (some 68), aI (nI x), aL c, aU, aL f, aU, aI (nI j), aI (nI (k + 1))] [] (dp σ w) (eI K) := by
            intro e
            refine ih (k + 1) (some j) w (by omega) (fun i q => by cases q; exact hjS) (fun w' => ?_)
            have := h w'
            rw [bsF, if_pos eT] at this
            simpa [pk2, e] using this
          have take2 : btM σ k j = true → _ := fun e => take (by simp [pk2, e])
          have eoj : ofN (some j) = nI j := rfl
          simp only [eoj]
          have hVj : okV (rwM (dp σ w) j) := (hR j hjS).v
          have e2 : rE (rwM (dp σ w) j) + gl (dp σ w) 86 (rV (rwM (dp σ w) j)).toNatClampNeg = enR (gl σ 86) (rwM σ j) := rfl
          refine M_endOf hMw hkS hV ?_
          rw [e1]
          simp only [z10, z00, not_true_eq_false, not_false_eq_true, false_implies, true_implies, implies_true, nI_1, Int32.add_zero, true_or, or_true, true_and, and_true, eI_eq, eL_eq, eR_eq, eV_eq, lg_cmp_ge, lg_cmp_le, lg_cmp_gt, lg_cmp_lt, lg_cmp_eq, v_144_91, v_144_92, v_144_94, hMw.o]
          refine M_endOf hMw hjS hVj ?_
          rw [e2]
          simp only [z10, z00, not_true_eq_false, not_false_eq_true, false_implies, true_implies, implies_true, nI_1, Int32.add_zero, true_or, or_true, true_and, and_true, eI_eq, eL_eq, eR_eq, eV_eq, lg_cmp_ge, lg_cmp_le, lg_cmp_gt, lg_cmp_lt, lg_cmp_eq, v_144_97, v_144_98, v_144_101, v_144_102, v_144_104, v_144_134, v_144_136, v_144_138, v_144_141, hMw.o]
          refine ⟨fun g6 => take2 (by simp [btM, btR, g6]), fun g6 => M_endOf hMw hkS hV ?_⟩
          rw [e1]
          simp only [z10, z00, not_true_eq_false, not_false_eq_true, false_implies, true_implies, implies_true, nI_1, Int32.add_zero, true_or, or_true, true_and, and_true, eI_eq, eL_eq, eR_eq, eV_eq, lg_cmp_ge, lg_cmp_le, lg_cmp_gt, lg_cmp_lt, lg_cmp_eq, v_144_107, v_144_108, v_144_110, hMw.o]
          refine M_endOf hMw hjS hVj ?_
          rw [e2]
          simp only [z10, z00, not_true_eq_false, not_false_eq_true, false_implies, true_implies, implies_true, nI_1, Int32.add_zero, true_or, or_true, true_and, and_true, eI_eq, eL_eq, eR_eq, eV_eq, lg_cmp_ge, lg_cmp_le, lg_cmp_gt, lg_cmp_lt, lg_cmp_eq, v_144_113, v_144_114, v_144_117, v_144_118, v_144_121, v_144_123, v_144_124, v_144_125, v_144_128, v_144_130, v_144_131, v_144_134, v_144_136, v_144_138, v_144_141, hMw.o, hMw.r2, hMw.x70 (k := k) (by omega), hMw.x70 (k := j) (by omega), hc, hcj, gi_d 70 k (by decide), gi_d 70 j (by decide)]
          refine ⟨fun g7 => stay (by simp [btM, btR, g6, g7]), fun g7 => ⟨fun g8 => stay ?_, fun g8 => take2 ?_⟩⟩
          · exact decide_eq_false (fun q => q.elim g6 (fun q => Int32.not_lt.mpr g8 q.2))
          · exact decide_eq_true (Or.inr ⟨g7, Int32.not_le.mp g8⟩)
theorem M_next {d : Nat} {σ : Sto} {K : Int32 → Sto → Prop} {S x : Nat} {c f : Int64} (hM : MB σ S) (hx : x < S) (hR : ∀ k, k < S → okR (rwM σ k)) (h : ∀ w, K (ofN (nxM σ S x c f)) (dp σ w)) : CI (d + 4) 144 [aR (some 68), aI (nI x), aL c, aL f] σ K := by
  refine CI_of ?_
  show Ev (d + 4, 0, 0) 144 0 [aR (some 68), aI (nI x), aL c, aU, aL f, aU, aU, aU] [] σ _
  simp only [z10, z00, not_true_eq_false, not_false_eq_true, false_implies, true_implies, implies_true, nI_1, Int32.add_zero, true_or, or_true, true_and, and_true, eI_eq, eL_eq, eR_eq, eV_eq, lg_cmp_ge, lg_cmp_le, lg_cmp_gt, lg_cmp_lt, lg_cmp_eq, v_144_0, v_144_1, v_144_3, v_144_4]
  have := M_next_loop (d := d) (K := K) (c := c) (f := f) hM hx hR S 0 none (gi σ 68 18) (by omega) (fun j q => by cases q) h
  rw [dp_self] at this
  exact this
theorem bsF_lt {p : Nat → Bool} {bt : Nat → Nat → Bool} : ∀ (n k : Nat) (b : Option Nat) (j : Nat), bsF p bt k n b = some j → (k ≤ j ∧ j < k + n ∧ p j = true) ∨ b = some j := by
  intro n
  induction n with
  | zero => intro k b j h; exact Or.inr h
  | succ n ih =>
    intro k b j h
    rw [bsF] at h
    rcases ih _ _ _ h with q | q
    · exact Or.inl ⟨by omega, by omega, q.2.2⟩
    · by_cases hp : p k = true
      · rw [if_pos hp] at q
        cases b with
        | none => cases q; exact Or.inl ⟨Nat.le_refl _, by omega, hp⟩
        | some i =>
          simp only [pk2] at q
          split at q
          · cases q; exact Or.inl ⟨Nat.le_refl _, by omega, hp⟩
          · exact Or.inr q
      · rw [if_neg hp] at q
        exact Or.inr q
theorem nxM_lt {σ : Sto} {S x : Nat} {c f : Int64} {k : Nat} (h : nxM σ S x c f = some k) : k < S ∧ elM σ S x c f k = true := by
  rcases bsF_lt _ _ _ _ h with q | q
  · exact ⟨by omega, q.2.2⟩
  · cases q
