/-! the reference: check, time, moved times -/
theorem div6 {k : Nat} (h : k < 36) : nI k / 6 = nI (k / 6) := pk_div (d := 6) (by omega) (by omega) (by omega)
theorem rem6 {k : Nat} (h : k < 36) : nI k - nI k / 6 * 6 = nI (k % 6) := pk_rem (d := 6) (by omega) (by omega) (by omega)
theorem rem6' {k : Nat} (h : k < 36) : nI k - nI (k / 6) * 6 = nI (k % 6) := by rw [← div6 h, rem6 h]
def dnF (c : Nat → Bool) : Nat → Int32 → Int32
  | 0, f => f
  | n + 1, f => dnF c n (if c n then nI n else f)
def ckB (o : Nat → Option Int64) (t : Nat → Int64) (k : Nat) : Bool := match o k with
  | none => false
  | some v => decide (v < t (k / 6) - t (k % 6))
theorem M_check_dn {b : B3} {σ : Sto} {Q : Po} {S : Nat} {o : Nat → Option Int64} (hM : MB σ S) (hF : RpB σ 81 83 o) : ∀ (n : Nat) (f : Int32), n ≤ 36 → Ev b 139 59 [aR (some 68), aI (dnF (ckB o (gl σ 87)) n f), aI (-1)] [] σ Q → Ev b 139 9 [aR (some 68), aI f, aI (nI n + (-1))] [] σ Q := by
  intro n
  induction n with
  | zero =>
    intro f hn h
    have c : nI 0 + (-1) < 0 := by decide
    have e : nI 0 + (-1) = -1 := by decide
    rw [v_139_9]
    simp only [z10, z00, not_true_eq_false, not_false_eq_true, false_implies, true_implies, implies_true, nI_1, Int32.add_zero, true_or, or_true, true_and, and_true, eI_eq, eL_eq, eR_eq, eV_eq, lg_cmp_ge, lg_cmp_le, lg_cmp_gt, lg_cmp_lt, lg_cmp_eq, v_139_10, v_139_13, v_139_14, v_139_17, v_139_18, v_139_19, v_139_22, v_139_23, v_139_26, v_139_27, v_139_29, v_139_30, v_139_31, v_139_32, v_139_35, v_139_36, v_139_38, v_139_39, v_139_40, v_139_41, v_139_42, v_139_45, v_139_46, v_139_47, v_139_48, v_139_51, v_139_52, v_139_53, v_139_56, c]
    rw [e]
    exact h
  | succ n ih =>
    intro f hn h
    rw [pk_m1]
    have c : ¬ nI n < 0 := nI_pos (by omega)
    have hk : n < 36 := by omega
    have hc : (nI n).toNatClampNeg = n := nI_clamp (by omega)
    have hc1 : (nI (n / 6)).toNatClampNeg = n / 6 := nI_clamp (by omega)
    have hc2 : (nI (n % 6)).toNatClampNeg = n % 6 := nI_clamp (by omega)
    have z6 : ((6 : Int32) = 0) = False := eq_false (by decide)
    obtain ⟨r1, r2⟩ := hF _ hk
    rw [v_139_9]
    simp only [z10, z00, not_true_eq_false, not_false_eq_true, false_implies, true_implies, implies_true, nI_1, Int32.add_zero, true_or, or_true, true_and, and_true, eI_eq, eL_eq, eR_eq, eV_eq, lg_cmp_ge, lg_cmp_le, lg_cmp_gt, lg_cmp_lt, lg_cmp_eq, v_139_10, v_139_13, v_139_14, v_139_17, v_139_18, v_139_19, v_139_22, v_139_23, v_139_26, v_139_27, v_139_29, v_139_30, v_139_31, v_139_32, v_139_35, v_139_36, v_139_38, v_139_39, v_139_40, v_139_41, v_139_42, v_139_45, v_139_46, v_139_47, v_139_48, v_139_51, v_139_52, v_139_53, v_139_56, c, rem6' hk, div6 hk, z6, hM.o, hM.r19, hM.r21, hM.r25, hM.a81 (k := n) hk, hM.a83 (k := n) hk, hM.a87 (k := n / 6) (by omega), hM.a87 (k := n % 6) (by omega), hc, hc1, hc2]
    simp only [dnF] at h
    refine ⟨fun g => ?_, fun g => ⟨fun g2 => ?_, fun g2 => ?_⟩⟩
    · have e : ckB o (gl σ 87) n = false := by unfold ckB; rw [← r1]; unfold oB; rw [if_pos g]
      exact ih f (by omega) (by simpa [e] using h)
    · have e : ckB o (gl σ 87) n = false := by unfold ckB; rw [← r1]; unfold oB; rw [if_neg g]; simpa using g2
      exact ih f (by omega) (by simpa [e] using h)
    · have e : ckB o (gl σ 87) n = true := by unfold ckB; rw [← r1]; unfold oB; rw [if_neg g]; simpa using g2
      exact ih (nI n) (by omega) (by simpa [e] using h)
/-- nothing but what is tried is written -/
def scT (σ σ' : Sto) : Prop := sn σ' = sn σ ∧ gr σ' = gr σ ∧ (∀ a, a ≠ 88 → gi σ' a = gi σ a) ∧ (∀ a, a ≠ 87 → gl σ' a = gl σ a)
theorem M_check_cl {b : B3} {σ : Sto} {K : Int32 → Sto → Prop} {S : Nat} {f : Int32} (hM : MB σ S) : ∀ (n k : Nat) (σ1 : Sto), k + n = 6 → scT σ σ1 → (∀ j, j < k → gl σ1 87 j = 0 ∧ gi σ1 88 j = 0) → (∀ σ2, scT σ σ2 → (∀ j, j < 6 → gl σ2 87 j = 0 ∧ gi σ2 88 j = 0) → K f σ2) → Ev b 139 61 [aR (some 68), aI f, aI (nI k)] [] σ1 (eI K) := by
  intro n
  induction n with
  | zero =>
    intro k σ1 hk hs hz h
    have hk' : k = 6 := by omega
    subst hk'
    have hle : (6 : Int32) ≤ nI 6 := by decide
    rw [v_139_61]
    simp only [z10, z00, not_true_eq_false, not_false_eq_true, false_implies, true_implies, implies_true, nI_1, Int32.add_zero, true_or, or_true, true_and, and_true, eI_eq, eL_eq, eR_eq, eV_eq, lg_cmp_ge, lg_cmp_le, lg_cmp_gt, lg_cmp_lt, lg_cmp_eq, v_139_62, v_139_64, v_139_67, v_139_68, v_139_71, v_139_72, v_139_73, v_139_74, v_139_75, v_139_78, v_139_79, v_139_80, v_139_81, v_139_84, v_139_87, v_139_88, hle]
    exact h σ1 hs hz
  | succ n ih =>
    intro k σ1 hk hs hz h
    have hle : ¬ (6 : Int32) ≤ nI k := nI_ge (b := 6) (a := k) (by omega) (by omega)
    have hc : (nI k).toNatClampNeg = k := nI_clamp (by omega)
    have hM1 : MB σ1 S := by
      unfold MB at hM ⊢
      rw [hs.1, hs.2.1, hs.2.2.1 68 (by decide)]
      exact hM
    rw [v_139_61]
    simp only [z10, z00, not_true_eq_false, not_false_eq_true, false_implies, true_implies, implies_true, nI_1, Int32.add_zero, true_or, or_true, true_and, and_true, eI_eq, eL_eq, eR_eq, eV_eq, lg_cmp_ge, lg_cmp_le, lg_cmp_gt, lg_cmp_lt, lg_cmp_eq, v_139_62, v_139_64, v_139_67, v_139_68, v_139_71, v_139_72, v_139_73, v_139_74, v_139_75, v_139_78, v_139_79, v_139_80, v_139_81, v_139_84, v_139_87, v_139_88, hle, hM1.o, hM1.r25, hM1.r26, hM1.a87 (k := k) (by omega), hM1.a88 (k := k) (by omega), hc, okO_sl, okA_sl, gr_sl_r]
    refine ih (k + 1) _ (by omega) ⟨hs.1, hs.2.1, fun a ha => ?_, fun a ha => ?_⟩ (fun j hj => ?_) h
    · rw [(same_si ha).1, gi_sl_r]; exact hs.2.2.1 a ha
    · rw [gl_si_r, (same_sl ha).2.1]; exact hs.2.2.2 a ha
    · rw [gl_si_r, gl_sl, gi_si]
      unfold up1
      by_cases e : j = k
      · simp [e]
      · simp only [e, if_false]; exact hz j (by omega)
theorem M_check {d : Nat} {σ : Sto} {K : Int32 → Sto → Prop} {S : Nat} (hM : MB σ S) (hV : ∀ k, k < S → okV (rwM σ k)) (h : ∀ σ1 σ2, sc4 σ σ1 → scT σ1 σ2 → (∀ j, j < 6 → gl σ2 87 j = 0 ∧ gi σ2 88 j = 0) → K (dnF (ckB (bdA σ S) (gl σ 87)) 36 (-1)) σ2) : CI (d + 4) 139 [aR (some 68)] σ K := by
  refine CI_of ?_
  show Ev (d + 4, 0, 0) 139 0 [aR (some 68), aU, aU] [] σ _
  simp only [z10, z00, not_true_eq_false, not_false_eq_true, false_implies, true_implies, implies_true, nI_1, Int32.add_zero, true_or, or_true, true_and, and_true, eI_eq, eL_eq, eR_eq, eV_eq, lg_cmp_ge, lg_cmp_le, lg_cmp_gt, lg_cmp_lt, lg_cmp_eq, v_139_0, v_139_1, v_139_4, v_139_5, v_139_6, v_139_8, v_139_10, v_139_13, v_139_14, v_139_17, v_139_18, v_139_19, v_139_22, v_139_23, v_139_26, v_139_27, v_139_29, v_139_30, v_139_31, v_139_32, v_139_35, v_139_36, v_139_38, v_139_39, v_139_40, v_139_41, v_139_42, v_139_45, v_139_46, v_139_47, v_139_48, v_139_51, v_139_52, v_139_53, v_139_56, v_139_59, v_139_60, v_139_61, v_139_62, v_139_64, v_139_67, v_139_68, v_139_71, v_139_72, v_139_73, v_139_74, v_139_75, v_139_78, v_139_79, v_139_80, v_139_81, v_139_84, v_139_87, v_139_88, hM.o]
  refine M_bounds hM hV (fun σ2 q1 q2 q3 => ?_)
  have hM2 := q1.mb hM
  have e : gl σ2 87 = gl σ 87 := q1.2.2.2 87 (by decide) (by decide)
  rw [show (35 : Int32) = nI 36 + (-1) by decide]
  refine M_check_dn hM2 q2 36 (-1) (by omega) ?_
  simp only [v_139_59, v_139_60]
  rw [← nI_0]
  refine M_check_cl hM2 6 0 σ2 (by omega) ⟨rfl, rfl, fun _ _ => rfl, fun _ _ => rfl⟩ (fun j hj => by omega) (fun σ3 g1 g2 => ?_)
  rw [e]
  exact h σ2 σ3 q1 g1 g2
theorem M_beginOf {d : Nat} {σ : Sto} {k : Nat} {K : Int64 → Sto → Prop} {S : Nat} (hM : MB σ S) (hk : k < S) (hV : okV (rwM σ k)) (h : K (rB (rwM σ k) + gl σ 86 (rV (rwM σ k)).toNatClampNeg) σ) : CL d 140 [aR (some 68), aI (nI k)] σ K := by
  have hS := hM.c
  have hc : (nI k).toNatClampNeg = k := nI_clamp (by omega)
  obtain ⟨v, hv, ev⟩ := hV
  have hcv : (nI v).toNatClampNeg = v := nI_clamp (by omega)
  have ev' : gi σ 72 k = nI v := ev
  refine CL_of ?_
  show Ev (d, 0, 0) 140 0 [aR (some 68), aI (nI k)] [] σ _
  simp only [z10, z00, not_true_eq_false, not_false_eq_true, false_implies, true_implies, implies_true, nI_1, Int32.add_zero, true_or, or_true, true_and, and_true, eI_eq, eL_eq, eR_eq, eV_eq, lg_cmp_ge, lg_cmp_le, lg_cmp_gt, lg_cmp_lt, lg_cmp_eq, v_140_0, v_140_1, v_140_4, v_140_5, v_140_6, v_140_7, v_140_10, v_140_11, v_140_14, v_140_15, v_140_16, v_140_17, v_140_18, hM.o, hM.r4, hM.r8, hM.r24, hM.x72 (k := k) (by omega), hM.a76 (k := k) (by omega), hc, ev', hM.a86 (k := v) hv, hcv]
  simpa only [ev, hcv, rB_M] using h
theorem M_endOf {d : Nat} {σ : Sto} {k : Nat} {K : Int64 → Sto → Prop} {S : Nat} (hM : MB σ S) (hk : k < S) (hV : okV (rwM σ k)) (h : K (rE (rwM σ k) + gl σ 86 (rV (rwM σ k)).toNatClampNeg) σ) : CL d 141 [aR (some 68), aI (nI k)] σ K := by
  have hS := hM.c
  have hc : (nI k).toNatClampNeg = k := nI_clamp (by omega)
  obtain ⟨v, hv, ev⟩ := hV
  have hcv : (nI v).toNatClampNeg = v := nI_clamp (by omega)
  have ev' : gi σ 72 k = nI v := ev
  refine CL_of ?_
  show Ev (d, 0, 0) 141 0 [aR (some 68), aI (nI k)] [] σ _
  simp only [z10, z00, not_true_eq_false, not_false_eq_true, false_implies, true_implies, implies_true, nI_1, Int32.add_zero, true_or, or_true, true_and, and_true, eI_eq, eL_eq, eR_eq, eV_eq, lg_cmp_ge, lg_cmp_le, lg_cmp_gt, lg_cmp_lt, lg_cmp_eq, v_141_0, v_141_1, v_141_4, v_141_5, v_141_6, v_141_7, v_141_10, v_141_11, v_141_14, v_141_15, v_141_16, v_141_17, v_141_18, hM.o, hM.r4, hM.r9, hM.r24, hM.x72 (k := k) (by omega), hM.a77 (k := k) (by omega), hc, ev', hM.a86 (k := v) hv, hcv]
  simpa only [ev, hcv, rE_M] using h
/-- time's answer of a row -/
def tiA (mv : Nat → Int64) (r : Rw) (e m : Int32) : Int64 := (if e = 0 then rB r else rE r) + (if m = 0 then 0 else mv (rV r).toNatClampNeg)
theorem M_time {d : Nat} {σ : Sto} {t x e m : Int32} {K : Int64 → Sto → Prop} {S : Nat} (hM : MB σ S) (hV : ∀ k, k < S → okV (rwM σ k)) (h : K (match fIx (key t x) 0 (rws σ 0 S) with
    | none => -9223372036854775808
    | some k => tiA (gl σ 86) (rwM σ k) e m) σ) : CL (d + 1) 142 [aR (some 68), aI t, aI x, aI e, aI m] σ K := by
  have hS := hM.c
  refine CL_of ?_
  show Ev (d + 1, 0, 0) 142 0 [aR (some 68), aI t, aI x, aI e, aI m, aU] [] σ _
  simp only [z10, z00, not_true_eq_false, not_false_eq_true, false_implies, true_implies, implies_true, nI_1, Int32.add_zero, true_or, or_true, true_and, and_true, eI_eq, eL_eq, eR_eq, eV_eq, lg_cmp_ge, lg_cmp_le, lg_cmp_gt, lg_cmp_lt, lg_cmp_eq, v_142_0, v_142_1, v_142_2, v_142_3, v_142_6, v_142_8, v_142_10, v_142_13, v_142_16, v_142_17, v_142_18, v_142_21, v_142_22, v_142_25, v_142_27, v_142_28, v_142_31, v_142_32, v_142_35, v_142_37, v_142_38, v_142_40, v_142_43, v_142_44, v_142_47, v_142_48, v_142_51, v_142_53, v_142_54, v_142_55, v_142_58, v_142_59, v_142_60, hM.o]
  refine M_find hM ?_
  cases hf : fIx (key t x) 0 (rws σ 0 S) with
  | none =>
    rw [hf] at h
    have c1 : ¬ (0 : Int32) ≤ -1 := by decide
    simp only [ofN, c1, z10, z00, not_true_eq_false, not_false_eq_true, false_implies, true_implies, implies_true, true_and, and_true, true_or, or_true, false_and, and_false, false_or, or_false]
    exact h
  | some k =>
    have hk : k < S := by have := fIx_lt _ _ _ _ hf; rw [rws_len] at this; omega
    have c1 : (0 : Int32) ≤ nI k := nI_pos' (by omega)
    have hc : (nI k).toNatClampNeg = k := nI_clamp (by omega)
    obtain ⟨v, hv, ev⟩ := hV k hk
    have hcv : (nI v).toNatClampNeg = v := nI_clamp (by omega)
    have ev' : gi σ 72 k = nI v := ev
    simp only [hf, tiA, rB_M, rE_M, ev, hcv] at h
    simp only [z10, z00, not_true_eq_false, not_false_eq_true, false_implies, true_implies, implies_true, nI_1, Int32.add_zero, true_or, or_true, true_and, and_true, eI_eq, eL_eq, eR_eq, eV_eq, lg_cmp_ge, lg_cmp_le, lg_cmp_gt, lg_cmp_lt, lg_cmp_eq, v_142_0, v_142_1, v_142_2, v_142_3, v_142_6, v_142_8, v_142_10, v_142_13, v_142_16, v_142_17, v_142_18, v_142_21, v_142_22, v_142_25, v_142_27, v_142_28, v_142_31, v_142_32, v_142_35, v_142_37, v_142_38, v_142_40, v_142_43, v_142_44, v_142_47, v_142_48, v_142_51, v_142_53, v_142_54, v_142_55, v_142_58, v_142_59, v_142_60, ofN, c1, hM.o, hM.r4, hM.r8, hM.r9, hM.r24, hM.x72 (k := k) (by omega), hM.a76 (k := k) (by omega), hM.a77 (k := k) (by omega), hc, ev', hM.a86 (k := v) hv, hcv, z10, z00, not_true_eq_false, not_false_eq_true, false_implies, true_implies, implies_true, true_and, and_true, true_or, or_true, false_and, and_false, false_or, or_false]
    refine ⟨fun g => ⟨fun g2 => by simpa [g, g2] using h, fun g2 => by simpa [g, g2] using h⟩, fun g => ⟨fun g2 => by simpa [g, g2] using h, fun g2 => by simpa [g, g2] using h⟩⟩
