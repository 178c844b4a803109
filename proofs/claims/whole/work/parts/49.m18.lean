/-! the reference: a way down -/
def mxL (a b : Int64) : Int64 := if b < a then a else b
def wkO {α : Type} (nx : α → Int64 → Int64 → Option α) (B E : α → Int64) : Nat → α → Int64 → Int64 → Option (List (α × Int64 × Int64))
  | 0, _, _, _ => none
  | n + 1, x, c, f => if c ≤ f then some [] else match nx x c f with
    | none => some [(x, f, c)]
    | some k => match wkO nx B E n k (E k) (mxL (B k) f), wkO nx B E n x (mxL (B k) f) f with
      | some l1, some l2 => some ((if E k < c then [(x, E k, c)] else []) ++ (l1 ++ l2))
      | _, _ => none
def scW (σ σ' : Sto) : Prop := sn σ' = sn σ ∧ gr σ' = gr σ ∧ (∀ a, a ≠ 68 → a ≠ 89 → a ≠ 92 → gi σ' a = gi σ a) ∧ (∀ k, k ≠ 18 → k ≠ 27 → gi σ' 68 k = gi σ 68 k) ∧ (∀ a, a ≠ 90 → a ≠ 91 → a ≠ 93 → gl σ' a = gl σ a)
theorem scW.rfl (σ : Sto) : scW σ σ := ⟨Eq.refl _, Eq.refl _, fun _ _ _ _ => Eq.refl _, fun _ _ _ => Eq.refl _, fun _ _ _ _ => Eq.refl _⟩
theorem scW.trans {σ σ' σ'' : Sto} (h1 : scW σ σ') (h2 : scW σ' σ'') : scW σ σ'' := ⟨h2.1.trans h1.1, h2.2.1.trans h1.2.1, fun a e1 e2 e3 => (h2.2.2.1 a e1 e2 e3).trans (h1.2.2.1 a e1 e2 e3), fun a e1 e2 => (h2.2.2.2.1 a e1 e2).trans (h1.2.2.2.1 a e1 e2), fun a e1 e2 e3 => (h2.2.2.2.2 a e1 e2 e3).trans (h1.2.2.2.2 a e1 e2 e3)⟩
theorem scW.mb {σ σ' : Sto} {S : Nat} (h : scW σ σ') (hM : MB σ S) : MB σ' S := by
  obtain ⟨h1, h2, h3, h4, h5⟩ := h
  unfold MB at hM ⊢
  rw [h1, h2, h4 0 (by decide) (by decide)]
  exact hM
theorem scW.rw {σ σ' : Sto} (h : scW σ σ') : rwM σ' = rwM σ := by
  obtain ⟨h1, h2, h3, h4, h5⟩ := h
  funext k
  unfold rwM
  rw [h3 69 (by decide) (by decide) (by decide), h3 70 (by decide) (by decide) (by decide), h3 71 (by decide) (by decide) (by decide), h3 72 (by decide) (by decide) (by decide), h3 73 (by decide) (by decide) (by decide), h3 74 (by decide) (by decide) (by decide), h3 75 (by decide) (by decide) (by decide), h5 76 (by decide) (by decide) (by decide), h5 77 (by decide) (by decide) (by decide)]
theorem scW.mv {σ σ' : Sto} (h : scW σ σ') : gl σ' 86 = gl σ 86 := h.2.2.2.2 86 (by decide) (by decide) (by decide)
theorem scW.dp (σ : Sto) (v : Int32) : scW σ (dp σ v) := by
  refine ⟨Eq.refl _, Eq.refl _, fun a h1 h2 h3 => ?_, fun k h1 h2 => ?_, fun _ _ _ _ => Eq.refl _⟩
  · unfold Jvm.Pilot.CTracePostLaw_law_r3654_ec2a67.dp; rw [gi_si_r, if_neg h1]
  · unfold Jvm.Pilot.CTracePostLaw_law_r3654_ec2a67.dp; rw [gi_si_r, if_pos (Eq.refl _), up1, if_neg h1]
theorem rws_of {σ σ' : Sto} (h : rwM σ' = rwM σ) : ∀ n k, rws σ' k n = rws σ k n
  | 0, _ => rfl
  | n + 1, k => by rw [rws, rws, rws_of h n (k + 1), h]
theorem uM_of {σ σ' : Sto} (h : rwM σ' = rwM σ) (S : Nat) : uM σ' S = uM σ S := by
  funext k
  unfold uM
  rw [rws_of h, h]
theorem kiB_of {σ σ' : Sto} (h : rwM σ' = rwM σ) (S : Nat) : kiB σ' S = kiB σ S := by
  funext o k
  unfold kiB
  rw [uM_of h, h]
theorem nxM_of {σ σ' : Sto} (h : rwM σ' = rwM σ) (h2 : gl σ' 86 = gl σ 86) (S : Nat) : nxM σ' S = nxM σ S := by
  funext x c f
  have e1 : elM σ' S x c f = elM σ S x c f := by funext k; unfold elM; rw [kiB_of h, h, h2]
  have e2 : btM σ' = btM σ := by funext k j; unfold btM; rw [h, h2]
  unfold nxM
  rw [e1, e2]
/-- the parts that were told -/
def PT (σ : Sto) (ps : List (Nat × Int64 × Int64)) : Prop := gi σ 68 27 = nI ps.length ∧ ∀ i q, ps[i]? = some q → gi σ 89 i = nI q.1 ∧ gl σ 90 i = q.2.1 ∧ gl σ 91 i = q.2.2
def ptM (σ : Sto) (P k : Nat) (f c : Int64) : Sto := si (sl (sl (si σ 89 P (nI k)) 90 P f) 91 P c) 68 27 (nI (P + 1))
theorem scW.pt (σ : Sto) (P k : Nat) (f c : Int64) : scW σ (ptM σ P k f c) := by
  refine ⟨Eq.refl _, Eq.refl _, fun a h1 h2 h3 => ?_, fun k h1 h2 => ?_, fun a h1 h2 h3 => ?_⟩
  · unfold ptM; rw [gi_si_r, if_neg h1, gi_sl_r, gi_sl_r, gi_si_r, if_neg h2]
  · unfold ptM; rw [gi_si_r, if_pos (Eq.refl _), up1, if_neg h2, gi_sl_r, gi_sl_r, gi_si_r, if_neg (by decide)]
  · unfold ptM; rw [gl_si_r, gl_sl_r, if_neg h2, gl_sl_r, if_neg h1, gl_si_r]
theorem PT.add {σ : Sto} {ps : List (Nat × Int64 × Int64)} (h : PT σ ps) (k : Nat) (f c : Int64) : PT (ptM σ ps.length k f c) (ps ++ [(k, f, c)]) := by
  refine ⟨?_, fun i q hq => ?_⟩
  · unfold ptM
    rw [gi_si_r, if_pos rfl, up1, if_pos rfl, List.length_append]
    rfl
  · have e1 : gi (ptM σ ps.length k f c) 89 i = if i = ps.length then nI k else gi σ 89 i := by
      unfold ptM; rw [gi_si_r, if_neg (by decide), gi_sl_r, gi_sl_r, gi_si_r, if_pos rfl, up1]
    have e2 : gl (ptM σ ps.length k f c) 90 i = if i = ps.length then f else gl σ 90 i := by
      unfold ptM; rw [gl_si_r, gl_sl_r, if_neg (by decide), gl_sl_r, if_pos rfl, up1, gl_si_r]
    have e3 : gl (ptM σ ps.length k f c) 91 i = if i = ps.length then c else gl σ 91 i := by
      unfold ptM; rw [gl_si_r, gl_sl_r, if_pos rfl, gl_sl_r, if_neg (show ¬ 91 = 90 by decide), gl_si_r, up1]
    rw [e1, e2, e3]
    by_cases hi : i = ps.length
    · subst hi
      rw [List.getElem?_append_right (Nat.le_refl _), Nat.sub_self] at hq
      cases hq
      simp
    · rw [if_neg hi, if_neg hi, if_neg hi]
      have hlt : i < ps.length := by
        have := (List.getElem?_eq_some_iff.mp hq).1
        simp only [List.length_append, List.length_cons, List.length_nil] at this
        omega
      rw [List.getElem?_append_left hlt] at hq
      exact h.2 i q hq
theorem M_part {d : Nat} {σ : Sto} {K : Sto → Prop} {S k P : Nat} {f c : Int64} (hM : MB σ S) (hP : gi σ 68 27 = nI P) (hP2 : P < 400) (h : K (ptM σ P k f c)) : CV d 143 [aR (some 68), aI (nI k), aL f, aL c] σ K := by
  have hc : (nI P).toNatClampNeg = P := nI_clamp (by omega)
  have e1 : ∀ x, gi (si σ 89 P x) 68 27 = nI P := fun x => by rw [gi_si_r, if_neg (by decide), hP]
  refine CV_of ?_
  show Ev (d, 0, 0) 143 0 [aR (some 68), aI (nI k), aL f, aU, aL c, aU] [] σ _
  simp only [z10, z00, not_true_eq_false, not_false_eq_true, false_implies, true_implies, implies_true, nI_1, Int32.add_zero, true_or, or_true, true_and, and_true, eI_eq, eL_eq, eR_eq, eV_eq, lg_cmp_ge, lg_cmp_le, lg_cmp_gt, lg_cmp_lt, lg_cmp_eq, v_143_0, v_143_1, v_143_4, v_143_5, v_143_8, v_143_9, v_143_10, v_143_11, v_143_14, v_143_15, v_143_18, v_143_19, v_143_20, v_143_21, v_143_24, v_143_25, v_143_28, v_143_30, v_143_31, v_143_32, v_143_33, v_143_36, v_143_37, v_143_38, v_143_41, hM.o, hM.r28, hM.r29, hM.r30, hP, hc, e1, hM.a89 (k := P) (by omega), hM.a90 (k := P) (by omega), hM.a91 (k := P) (by omega), okO_si, okO_sl, okA_si, okA_sl, gr_si_r, gr_sl_r, gi_sl_r]
  exact h
def mvB (mv : Nat → Int64) : Prop := ∀ a, a < 6 → -1000000000000000 ≤ (mv a).toInt ∧ (mv a).toInt ≤ 1000000000000000
theorem be_lt_en {mv : Nat → Int64} {r : Rw} (hm : mvB mv) (hr : okR r) (h : ¬ rB r = rE r) : beR mv r < enR mv r := by
  obtain ⟨-, -, -, ⟨v, hv, ev⟩, -, -, -, ⟨b, e, hb, he, e1, e2⟩⟩ := hr
  unfold beR enR
  have hm := hm v hv
  rw [ev, nI_clamp (by omega), e1, e2]
  rw [e1, e2] at h
  have hne : b ≠ e := fun q => h (by rw [q])
  have t1 := lN_toInt (n := b) (by omega)
  have t2 := lN_toInt (n := e) (by omega)
  rw [Int64.lt_iff_toInt_lt, fb_addL (by omega) (by omega), fb_addL (by omega) (by omega)]
  omega
theorem mxL_lt {a b c : Int64} (h1 : a < c) (h2 : b < c) : mxL a b < c := by
  unfold mxL
  split
  · exact h1
  · exact h2
theorem mxL_ge (a b : Int64) : b ≤ mxL a b := by
  unfold mxL
  split
  · rename_i h; exact Int64.le_of_lt h
  · exact Int64.le_refl _
theorem M_walk_frame {d : Nat} {σ : Sto} {Q : Po} {S : Nat} {root : Int32} (hM : MB σ S) (hR : ∀ k, k < S → okR (rwM σ k)) (hm : mvB (gl σ 86)) : ∀ (n x : Nat) (c f : Int64) (op : Nat) (σ1 : Sto) (ps l : List (Nat × Int64 × Int64)) (u5 u6 u7 u8 : AV), wkO (nxM σ S) (fun k => beR (gl σ 86) (rwM σ k)) (fun k => enR (gl σ 86) (rwM σ k)) n x c f = some l → x < S → op + n ≤ 62 → ps.length + l.length ≤ 400 → scW σ σ1 → PT σ1 ps → gi σ1 92 op = nI x → gl σ1 93 op = f → (∀ σ2 u5 u6 u7 u8, scW σ σ2 → PT σ2 (ps ++ l) → (∀ j, j < op → gi σ2 92 j = gi σ1 92 j ∧ gl σ2 93 j = gl σ1 93 j) → Ev (d + 5, 0, 0) 145 48 [aR (some 68), aI root, aI (nI op), aL (if c ≤ f then c else f), aU, u5, u6, u7, u8] [] σ2 Q) → Ev (d + 5, 0, 0) 145 48 [aR (some 68), aI root, aI (nI (op + 1)), aL c, aU, u5, u6, u7, u8] [] σ1 Q := by
  intro n
  induction n with
  | zero =>
    intro x c f op σ1 ps l u5 u6 u7 u8 hw
    cases hw
  | succ n ih =>
    intro x c f op σ1 ps l u5 u6 u7 u8 hw hx hop hlen hs hpt hsx hsf h
    have hS := hM.c
    have c0 : ¬ nI (op + 1) ≤ 0 := nI_nle (by omega) (by omega)
    have hco : (nI op).toNatClampNeg = op := nI_clamp (by omega)
    have pop : ∀ (c' : Int64) (σ3 : Sto) (u5 u6 u7 u8 : AV), c' ≤ f → scW σ σ3 → gi σ3 92 op = nI x → gl σ3 93 op = f → (∀ u5 u6 u7 u8, Ev (d + 5, 0, 0) 145 48 [aR (some 68), aI root, aI (nI op), aL c', aU, u5, u6, u7, u8] [] σ3 Q) → Ev (d + 5, 0, 0) 145 48 [aR (some 68), aI root, aI (nI (op + 1)), aL c', aU, u5, u6, u7, u8] [] σ3 Q := by
      intro c' σ3 u5 u6 u7 u8 hc' hs3 e1 e2 k
      have hM3 := hs3.mb hM
      have cg : ¬ f < c' := Int64.not_lt.mpr hc'
      rw [v_145_48]
      simp only [z10, z00, not_true_eq_false, not_false_eq_true, false_implies, true_implies, implies_true, nI_1, Int32.add_zero, true_or, or_true, true_and, and_true, eI_eq, eL_eq, eR_eq, eV_eq, lg_cmp_ge, lg_cmp_le, lg_cmp_gt, lg_cmp_lt, lg_cmp_eq, v_145_49, v_145_52, v_145_53, v_145_56, v_145_57, v_145_58, v_145_59, v_145_60, v_145_62, v_145_63, v_145_66, v_145_67, v_145_68, v_145_69, v_145_70, v_145_72, v_145_73, v_145_75, v_145_76, v_145_79, v_145_82, c0, hM3.o, hM3.r31, hM3.r32, nI_pred, hM3.x92 (k := op) (by omega), hM3.a93 (k := op) (by omega), hco, e1, e2, cg, pk_m1]
      exact k _ _ _ _
    unfold wkO at hw
    by_cases hcf : c ≤ f
    · rw [if_pos hcf] at hw
      cases hw
      refine pop c σ1 u5 u6 u7 u8 hcf hs hsx hsf (fun v5 v6 v7 v8 => ?_)
      have := h σ1 v5 v6 v7 v8 hs (by simpa using hpt) (fun _ _ => ⟨rfl, rfl⟩)
      rw [if_pos hcf] at this
      exact this
    · rw [if_neg hcf] at hw
      rw [if_neg hcf] at h
      have hM1 := hs.mb hM
      have cg : f < c := Int64.not_le.mp hcf
      rw [v_145_48]
      simp only [z10, z00, not_true_eq_false, not_false_eq_true, false_implies, true_implies, implies_true, nI_1, Int32.add_zero, true_or, or_true, true_and, and_true, eI_eq, eL_eq, eR_eq, eV_eq, lg_cmp_ge, lg_cmp_le, lg_cmp_gt, lg_cmp_lt, lg_cmp_eq, v_145_49, v_145_52, v_145_53, v_145_56, v_145_57, v_145_58, v_145_59, v_145_60, v_145_62, v_145_63, v_145_66, v_145_67, v_145_68, v_145_69, v_145_70, v_145_72, v_145_73, v_145_75, v_145_76, v_145_79, v_145_82, v_145_85, v_145_86, v_145_88, v_145_89, v_145_91, c0, hM1.o, hM1.r31, hM1.r32, nI_pred, hM1.x92 (k := op) (by omega), hM1.a93 (k := op) (by omega), hco, hsx, hsf, cg]
      refine M_next hM1 hx (by rw [hs.rw]; exact hR) (fun w => ?_)
      have enx : nxM σ1 S x c f = nxM σ S x c f := by rw [nxM_of hs.rw hs.mv]
      rw [enx]
      have hsw := hs.trans (scW.dp σ1 w)
      have hMw := hsw.mb hM
      have hptw : PT (dp σ1 w) ps := by
        refine ⟨?_, hpt.2⟩
        have : gi (dp σ1 w) 68 27 = gi σ1 68 27 := by unfold dp; rw [gi_si_r, if_pos rfl, up1, if_neg (by decide)]
        rw [this]
        exact hpt.1
      cases hnx : nxM σ S x c f with
      | none =>
        rw [hnx] at hw
        cases hw
        have c1 : ¬ (0 : Int32) ≤ -1 := by decide
        simp only [ofN, c1, z10, z00, not_true_eq_false, not_false_eq_true, false_implies, true_implies, implies_true, nI_1, Int32.add_zero, true_or, or_true, true_and, and_true, eI_eq, eL_eq, eR_eq, eV_eq, lg_cmp_ge, lg_cmp_le, lg_cmp_gt, lg_cmp_lt, lg_cmp_eq, v_145_94, v_145_96, v_145_98, v_145_101, v_145_102, v_145_104, v_145_106, v_145_107, v_145_110, v_145_112, v_145_113, hMw.o, z10, z00, not_true_eq_false, not_false_eq_true, false_implies, true_implies, implies_true, true_and, and_true, true_or, or_true, false_and, and_false, false_or, or_false]
        refine M_part hMw hptw.1 (by simp only [List.length_cons, List.length_nil] at hlen; omega) ?_
        refine pop f _ _ _ _ _ (Int64.le_refl _) (hsw.trans (scW.pt _ _ _ _ _)) hsx hsf (fun v5 v6 v7 v8 => ?_)
        refine h _ _ _ _ _ (hsw.trans (scW.pt _ _ _ _ _)) (hptw.add x f c) (fun j hj => ⟨?_, ?_⟩)
        · rfl
        · rfl
      | some k =>
        rw [hnx] at hw
        simp only at hw
        obtain ⟨hk, hel⟩ := nxM_lt hnx
        have hel2 : elR (gl σ 86) c f (rwM σ k) = true := by
          unfold elM at hel
          exact (Bool.and_eq_true_iff.mp hel).2
        unfold elR at hel2
        obtain ⟨q1, q2, q3, q4⟩ := of_decide_eq_true hel2
        have hBE := be_lt_en hm (hR k hk) q2
        generalize hl1 : wkO (nxM σ S) (fun k => beR (gl σ 86) (rwM σ k)) (fun k => enR (gl σ 86) (rwM σ k)) n k (enR (gl σ 86) (rwM σ k)) (mxL (beR (gl σ 86) (rwM σ k)) f) = o1 at hw
        generalize hl2 : wkO (nxM σ S) (fun k => beR (gl σ 86) (rwM σ k)) (fun k => enR (gl σ 86) (rwM σ k)) n x (mxL (beR (gl σ 86) (rwM σ k)) f) f = o2 at hw
        cases o1 with
        | none => cases hw
        | some l1 =>
          cases o2 with
          | none => cases hw
          | some l2 =>
            simp only [Option.some.injEq] at hw
            have hok : ∀ τ, rwM τ = rwM σ → okV (rwM τ k) := fun τ e => by rw [e]; exact (hR k hk).v
            have hE : ∀ τ, scW σ τ → rE (rwM τ k) + gl τ 86 (rV (rwM τ k)).toNatClampNeg = enR (gl σ 86) (rwM σ k) := fun τ e => by rw [e.rw, e.mv]; rfl
            have hB : ∀ τ, scW σ τ → rB (rwM τ k) + gl τ 86 (rV (rwM τ k)).toNatClampNeg = beR (gl σ 86) (rwM σ k) := fun τ e => by rw [e.rw, e.mv]; rfl
            have c1 : (0 : Int32) ≤ nI k := nI_pos' (by omega)
            have ho1 : (nI (op + 1)).toNatClampNeg = op + 1 := nI_clamp (by omega)
            have hf' : mxL (beR (gl σ 86) (rwM σ k)) f < enR (gl σ 86) (rwM σ k) := mxL_lt hBE q4
            have hfge : f ≤ mxL (beR (gl σ 86) (rwM σ k)) f := mxL_ge _ _
            have rest : ∀ (σ3 : Sto) (ps1 : List (Nat × Int64 × Int64)), scW σ σ3 → PT σ3 ps1 → (∀ j, j < op + 1 → gi σ3 92 j = gi σ1 92 j ∧ gl σ3 93 j = gl σ1 93 j) → ps1 ++ (l1 ++ l2) = ps ++ l → Ev (d + 5, 0, 0) 145 140 [aR (some 68), aI root, aI (nI (op + 1)), aL c, aU, aI (nI x), aL f, aU, aI (nI k)] [] σ3 Q := by
              intro σ3 ps1 hs3 hpt3 hst3 hps
              have hM3 := hs3.mb hM
              have hll : ps1.length + (l1.length + l2.length) = ps.length + l.length := by
                have := congrArg List.length hps
                simpa using this
              simp only [z10, z00, not_true_eq_false, not_false_eq_true, false_implies, true_implies, implies_true, nI_1, Int32.add_zero, true_or, or_true, true_and, and_true, eI_eq, eL_eq, eR_eq, eV_eq, lg_cmp_ge, lg_cmp_le, lg_cmp_gt, lg_cmp_lt, lg_cmp_eq, v_145_140, v_145_141, v_145_143, hM3.o]
              refine M_endOf hM3 hk (hok _ hs3.rw) ?_
              rw [hE σ3 hs3]
              have hs4 : scW σ (si σ3 92 (op + 1) (nI k)) := hs3.trans ⟨rfl, rfl, fun a h1 h2 h3 => by rw [gi_si_r, if_neg h3], fun a h1 h2 => by rw [gi_si_r, if_neg (by decide)], fun _ _ _ _ => rfl⟩
              have hM4 := hs4.mb hM
              simp only [z10, z00, not_true_eq_false, not_false_eq_true, false_implies, true_implies, implies_true, nI_1, Int32.add_zero, true_or, or_true, true_and, and_true, eI_eq, eL_eq, eR_eq, eV_eq, lg_cmp_ge, lg_cmp_le, lg_cmp_gt, lg_cmp_lt, lg_cmp_eq, v_145_146, v_145_147, v_145_148, v_145_151, v_145_152, v_145_154, v_145_155, v_145_156, v_145_159, v_145_160, v_145_161, v_145_163, hM3.o, hM3.r31, hM3.r32, ho1, hM3.a92 (k := op + 1) (by omega), okO_si, gr_si_r]
              refine M_beginOf hM4 hk (hok _ hs4.rw) ?_
              rw [hB _ hs4]
              have go : ∀ v, v = mxL (beR (gl σ 86) (rwM σ k)) f → Ev (d + 5, 0, 0) 145 48 [aR (some 68), aI root, aI (nI (op + 1 + 1)), aL (enR (gl σ 86) (rwM σ k)), aU, aI (nI x), aL f, aU, aI (nI k)] [] (sl (si σ3 92 (op + 1) (nI k)) 93 (op + 1) v) Q := by
                intro v ev
                have hs5 : scW σ (sl (si σ3 92 (op + 1) (nI k)) 93 (op + 1) v) := hs4.trans ⟨rfl, rfl, fun _ _ _ _ => rfl, fun _ _ _ => rfl, fun a h1 h2 h3 => by rw [gl_sl_r, if_neg h3]⟩
                refine ih k (enR (gl σ 86) (rwM σ k)) v (op + 1) _ ps1 l1 _ _ _ _ (by rw [ev]; exact hl1) hk (by omega) (by omega) hs5 hpt3 ?_ ?_ (fun σ6 v5 v6 v7 v8 hs6 hpt6 hst6 => ?_)
                · rw [gi_sl_r, gi_si_r, if_pos rfl, up1, if_pos rfl]
                · rw [gl_sl_r, if_pos rfl, up1, if_pos rfl]
                · rw [if_neg (by rw [ev]; exact Int64.not_le.mpr hf'), ev]
                  have st5 : ∀ j, j < op + 1 → gi σ6 92 j = gi σ1 92 j ∧ gl σ6 93 j = gl σ1 93 j := by
                    intro j hj
                    have := hst6 j hj
                    rw [this.1, this.2, gi_sl_r, gi_si_r, if_pos rfl, up1, if_neg (by omega), gl_sl_r, if_pos rfl, up1, if_neg (by omega), gl_si_r]
                    exact hst3 j hj
                  refine ih x _ f op σ6 (ps1 ++ l1) l2 _ _ _ _ hl2 hx (by omega) (by rw [List.length_append]; omega) hs6 hpt6 (by rw [(st5 op (by omega)).1]; exact hsx) (by rw [(st5 op (by omega)).2]; exact hsf) (fun σ7 w5 w6 w7 w8 hs7 hpt7 hst7 => ?_)
                  have ef : (if mxL (beR (gl σ 86) (rwM σ k)) f ≤ f then mxL (beR (gl σ 86) (rwM σ k)) f else f) = f := by
                    split
                    · rename_i q; exact Int64.le_antisymm q hfge
                    · rfl
                  rw [ef]
                  refine h σ7 _ _ _ _ hs7 (by rw [← hps, ← List.append_assoc]; exact hpt7) (fun j hj => ?_)
                  rw [(hst7 j hj).1, (hst7 j hj).2]
                  exact st5 j (by omega)
              simp only [z10, z00, not_true_eq_false, not_false_eq_true, false_implies, true_implies, implies_true, nI_1, Int32.add_zero, true_or, or_true, true_and, and_true, eI_eq, eL_eq, eR_eq, eV_eq, lg_cmp_ge, lg_cmp_le, lg_cmp_gt, lg_cmp_lt, lg_cmp_eq, v_145_166, v_145_168, v_145_169, v_145_172, v_145_173, v_145_175, hM4.o]
              refine ⟨fun g => ?_, fun g => ?_⟩
              · simp only [z10, z00, not_true_eq_false, not_false_eq_true, false_implies, true_implies, implies_true, nI_1, Int32.add_zero, true_or, or_true, true_and, and_true, eI_eq, eL_eq, eR_eq, eV_eq, lg_cmp_ge, lg_cmp_le, lg_cmp_gt, lg_cmp_lt, lg_cmp_eq, v_145_181, v_145_183, v_145_184, v_145_187, hM4.a93 (k := op + 1) (by omega), ho1, nI_1]
                exact go f (by unfold mxL; rw [if_neg (Int64.not_lt.mpr g)])
              · refine M_beginOf hM4 hk (hok _ hs4.rw) ?_
                rw [hB _ hs4]
                simp only [z10, z00, not_true_eq_false, not_false_eq_true, false_implies, true_implies, implies_true, nI_1, Int32.add_zero, true_or, or_true, true_and, and_true, eI_eq, eL_eq, eR_eq, eV_eq, lg_cmp_ge, lg_cmp_le, lg_cmp_gt, lg_cmp_lt, lg_cmp_eq, v_145_178, v_145_181, v_145_183, v_145_184, v_145_187, hM4.a93 (k := op + 1) (by omega), ho1, nI_1]
                exact go _ (by unfold mxL; rw [if_pos (Int64.not_le.mp g)])
            have stw : ∀ j, j < op + 1 → gi (dp σ1 w) 92 j = gi σ1 92 j ∧ gl (dp σ1 w) 93 j = gl σ1 93 j := fun _ _ => ⟨rfl, rfl⟩
            simp only [ofN, c1, z10, z00, not_true_eq_false, not_false_eq_true, false_implies, true_implies, implies_true, nI_1, Int32.add_zero, true_or, or_true, true_and, and_true, eI_eq, eL_eq, eR_eq, eV_eq, lg_cmp_ge, lg_cmp_le, lg_cmp_gt, lg_cmp_lt, lg_cmp_eq, v_145_94, v_145_96, v_145_98, v_145_116, v_145_117, v_145_119, hMw.o, z10, z00, not_true_eq_false, not_false_eq_true, false_implies, true_implies, implies_true, true_and, and_true, true_or, or_true, false_and, and_false, false_or, or_false]
            refine M_endOf hMw hk (hok _ hsw.rw) ?_
            rw [hE _ hsw]
            simp only [z10, z00, not_true_eq_false, not_false_eq_true, false_implies, true_implies, implies_true, nI_1, Int32.add_zero, true_or, or_true, true_and, and_true, eI_eq, eL_eq, eR_eq, eV_eq, lg_cmp_ge, lg_cmp_le, lg_cmp_gt, lg_cmp_lt, lg_cmp_eq, v_145_122, v_145_123, v_145_124, v_145_127, v_145_128, v_145_130, v_145_131, v_145_133, hMw.o]
            refine ⟨fun g => rest _ ps hsw hptw stw ?_, fun g => M_endOf hMw hk (hok _ hsw.rw) ?_⟩
            · rw [← hw, if_neg (Int64.not_lt.mpr g)]; rfl
            · rw [hE _ hsw]
              simp only [z10, z00, not_true_eq_false, not_false_eq_true, false_implies, true_implies, implies_true, nI_1, Int32.add_zero, true_or, or_true, true_and, and_true, eI_eq, eL_eq, eR_eq, eV_eq, lg_cmp_ge, lg_cmp_le, lg_cmp_gt, lg_cmp_lt, lg_cmp_eq, v_145_136, v_145_137, hMw.o, z10, z00, not_true_eq_false, not_false_eq_true, false_implies, true_implies, implies_true, true_and, and_true, true_or, or_true, false_and, and_false, false_or, or_false]
              have hlp : ps.length < 400 := by
                rw [← hw, if_pos (Int64.not_le.mp g)] at hlen
                simp only [List.length_append, List.length_cons, List.length_nil] at hlen
                omega
              refine M_part hMw hptw.1 hlp ?_
              refine rest _ (ps ++ [(x, enR (gl σ 86) (rwM σ k), c)]) (hsw.trans (scW.pt _ _ _ _ _)) (hptw.add _ _ _) ?_ ?_
              · intro j hj
                exact ⟨rfl, rfl⟩
              · rw [← hw, if_pos (Int64.not_le.mp g), List.append_assoc]
theorem M_walk {d : Nat} {σ : Sto} {K : Sto → Prop} {S r n : Nat} {l : List (Nat × Int64 × Int64)} (hM : MB σ S) (hR : ∀ k, k < S → okR (rwM σ k)) (hm : mvB (gl σ 86)) (hr : r < S) (hn : n ≤ 62) (hw : wkO (nxM σ S) (fun k => beR (gl σ 86) (rwM σ k)) (fun k => enR (gl σ 86) (rwM σ k)) n r (enR (gl σ 86) (rwM σ r)) (beR (gl σ 86) (rwM σ r)) = some l) (hl : l.length ≤ 400) (h : ∀ σ2, scW σ σ2 → PT σ2 l → K σ2) : CV (d + 5) 145 [aR (some 68), aI (nI r)] σ K := by
  have hS := hM.c
  have hc : (nI r).toNatClampNeg = r := nI_clamp (by omega)
  have hs0 : scW σ (si σ 68 27 0) := ⟨rfl, rfl, fun a h1 _ _ => by rw [gi_si_r, if_neg h1], fun k _ h2 => by rw [gi_si_r, if_pos rfl, up1, if_neg h2], fun _ _ _ _ => rfl⟩
  have hM0 := hs0.mb hM
  have hp0 : PT (si σ 68 27 0) [] := ⟨by rw [gi_si_r, if_pos rfl, up1, if_pos rfl]; rfl, fun i q e => by cases e⟩
  have c00 : (0 : Int32).toNatClampNeg = 0 := by decide
  refine CV_of ?_
  show Ev (d + 5, 0, 0) 145 0 [aR (some 68), aI (nI r), aU, aU, aU, aU, aU, aU, aU] [] σ _
  simp only [z10, z00, not_true_eq_false, not_false_eq_true, false_implies, true_implies, implies_true, nI_1, Int32.add_zero, true_or, or_true, true_and, and_true, eI_eq, eL_eq, eR_eq, eV_eq, lg_cmp_ge, lg_cmp_le, lg_cmp_gt, lg_cmp_lt, lg_cmp_eq, v_145_0, v_145_1, v_145_2, v_145_5, v_145_6, v_145_9, v_145_10, v_145_11, v_145_12, v_145_15, v_145_16, v_145_17, v_145_18, v_145_21, v_145_22, v_145_23, v_145_24, v_145_25, v_145_28, v_145_29, v_145_30, v_145_31, hM.o, hM0.o, hM0.r8, hM0.r9, hM0.r31, hM0.a76 (k := r) (by omega), hM0.a77 (k := r) (by omega), hc]
  have e1 : gl (si σ 68 27 0) 76 r = rB (rwM σ r) := rfl
  have e2 : gl (si σ 68 27 0) 77 r = rE (rwM σ r) := rfl
  rw [e1, e2]
  refine ⟨fun g => ?_, fun g => ?_⟩
  · have hs1 : scW σ (si (si σ 68 27 0) 92 0 (nI r)) := hs0.trans ⟨rfl, rfl, fun a _ _ h3 => by rw [gi_si_r, if_neg h3], fun k _ _ => by rw [gi_si_r, if_neg (by decide)], fun _ _ _ _ => rfl⟩
    have hM1 := hs1.mb hM
    have hV : ∀ τ, scW σ τ → okV (rwM τ r) := fun τ e => by rw [e.rw]; exact (hR r hr).v
    have hE : ∀ τ, scW σ τ → rE (rwM τ r) + gl τ 86 (rV (rwM τ r)).toNatClampNeg = enR (gl σ 86) (rwM σ r) := fun τ e => by rw [e.rw, e.mv]; rfl
    have hB : ∀ τ, scW σ τ → rB (rwM τ r) + gl τ 86 (rV (rwM τ r)).toNatClampNeg = beR (gl σ 86) (rwM σ r) := fun τ e => by rw [e.rw, e.mv]; rfl
    have a92 : okA (si σ 68 27 0) 92 7 0 := hM0.a92 (k := 0) (by omega)
    simp only [z10, z00, not_true_eq_false, not_false_eq_true, false_implies, true_implies, implies_true, nI_1, Int32.add_zero, true_or, or_true, true_and, and_true, eI_eq, eL_eq, eR_eq, eV_eq, lg_cmp_ge, lg_cmp_le, lg_cmp_gt, lg_cmp_lt, lg_cmp_eq, v_145_22, v_145_23, v_145_24, v_145_25, v_145_28, v_145_29, v_145_30, v_145_31, v_145_32, v_145_35, v_145_36, v_145_37, v_145_38, hM0.o, hM0.r31, a92, c00, hM1.o, hM1.r32]
    refine M_beginOf hM1 hr (hV _ hs1) ?_
    rw [hB _ hs1]
    have a93 : okA (si (si σ 68 27 0) 92 0 (nI r)) 93 8 0 := hM1.a93 (k := 0) (by omega)
    have hs2 : scW σ (sl (si (si σ 68 27 0) 92 0 (nI r)) 93 0 (beR (gl σ 86) (rwM σ r))) := hs1.trans ⟨rfl, rfl, fun _ _ _ _ => rfl, fun _ _ _ => rfl, fun a _ _ h3 => by rw [gl_sl_r, if_neg h3]⟩
    have hM2 := hs2.mb hM
    simp only [z10, z00, not_true_eq_false, not_false_eq_true, false_implies, true_implies, implies_true, nI_1, Int32.add_zero, true_or, or_true, true_and, and_true, eI_eq, eL_eq, eR_eq, eV_eq, lg_cmp_ge, lg_cmp_le, lg_cmp_gt, lg_cmp_lt, lg_cmp_eq, v_145_41, v_145_42, v_145_43, v_145_44, a93, c00, hM2.o]
    refine M_endOf hM2 hr (hV _ hs2) ?_
    rw [hE _ hs2]
    simp only [v_145_47]
    refine M_walk_frame hM hR hm n r _ _ 0 _ [] l _ _ _ _ hw hr (by omega) (by simpa using hl) hs2 hp0 ?_ ?_ (fun σ3 u5 u6 u7 u8 hs3 hpt3 hst3 => ?_)
    · rw [gi_sl_r, gi_si_r, if_pos rfl, up1, if_pos rfl]
    · rw [gl_sl_r, if_pos rfl, up1, if_pos rfl]
    · have c1 : nI 0 ≤ 0 := by decide
      rw [v_145_48]
      simp only [z10, z00, not_true_eq_false, not_false_eq_true, false_implies, true_implies, implies_true, nI_1, Int32.add_zero, true_or, or_true, true_and, and_true, eI_eq, eL_eq, eR_eq, eV_eq, lg_cmp_ge, lg_cmp_le, lg_cmp_gt, lg_cmp_lt, lg_cmp_eq, v_145_49, v_145_190, c1]
      exact h σ3 hs3 (by simpa using hpt3)
  · have : enR (gl σ 86) (rwM σ r) ≤ beR (gl σ 86) (rwM σ r) := by unfold enR beR; rw [g]; exact Int64.le_refl _
    cases n with
    | zero => cases hw
    | succ n =>
      unfold wkO at hw
      rw [if_pos this] at hw
      cases hw
      exact h _ hs0 hp0
/-! the reference: way, part, share -/
/-- the parts that way told -/
def TP (σ : Sto) (ts : List (Int32 × Int64 × Int64)) : Prop := gi σ 68 33 = nI ts.length ∧ ∀ i q, ts[i]? = some q → gi σ 94 i = q.1 ∧ gl σ 95 i = q.2.1 ∧ gl σ 96 i = q.2.2
def tpA (ts : List (Int32 × Int64 × Int64)) (i : Nat) (w : Int32) : Int64 := match ts[i]? with
  | none => -9223372036854775808
  | some q => if w = 0 then q.1.toInt64 else if w = 1 then q.2.1 else if w = 2 then q.2.2 else -9223372036854775808
theorem M_part_ {d : Nat} {σ : Sto} {K : Int64 → Sto → Prop} {S : Nat} {x w : Int32} {ts : List (Int32 × Int64 × Int64)} (hM : MB σ S) (hT : TP σ ts) (hl : ts.length ≤ 400) (h0 : (x < 0 ∨ nI ts.length ≤ x) → K (-9223372036854775808) σ) (h : ∀ i, i < ts.length → x = nI i → K (tpA ts i w) σ) : CL d 147 [aR (some 68), aI x, aI w] σ K := by
  refine CL_of ?_
  show Ev (d, 0, 0) 147 0 [aR (some 68), aI x, aI w] [] σ _
  simp only [z10, z00, not_true_eq_false, not_false_eq_true, false_implies, true_implies, implies_true, nI_1, Int32.add_zero, true_or, or_true, true_and, and_true, eI_eq, eL_eq, eR_eq, eV_eq, lg_cmp_ge, lg_cmp_le, lg_cmp_gt, lg_cmp_lt, lg_cmp_eq, v_147_0, v_147_1, v_147_4, v_147_5, v_147_6, v_147_9, v_147_12, v_147_15, v_147_16, hM.o, hT.1]
  refine ⟨fun g => h0 (Or.inl g), fun g => ⟨fun g2 => ?_, fun g2 => h0 (Or.inr (Int32.not_lt.mp g2))⟩⟩
  obtain ⟨i, hi, ei⟩ := ix_of (n := ts.length) (by omega) g (Int32.not_le.mpr g2)
  subst ei
  have hc : (nI i).toNatClampNeg = i := nI_clamp (by omega)
  have hq : ts[i]? = some ts[i] := List.getElem?_eq_getElem hi
  obtain ⟨t1, t2, t3⟩ := hT.2 i _ hq
  have h := h i hi rfl
  unfold tpA at h
  rw [hq] at h
  simp only at h
  by_cases hw : 0 ≤ w.toInt ∧ w.toInt ≤ 2
  · have hcase : w = 0 ∨ w = 1 ∨ w = 2 := by
      have e : w.toInt = 0 ∨ w.toInt = 1 ∨ w.toInt = 2 := by omega
      rcases e with e | e | e
      · exact Or.inl (of_toInt e)
      · exact Or.inr (Or.inl (of_toInt e))
      · exact Or.inr (Or.inr (of_toInt e))
    rcases hcase with rfl | rfl | rfl
    · simp only [v_147_17_0, z10, z00, not_true_eq_false, not_false_eq_true, false_implies, true_implies, implies_true, nI_1, Int32.add_zero, true_or, or_true, true_and, and_true, eI_eq, eL_eq, eR_eq, eV_eq, lg_cmp_ge, lg_cmp_le, lg_cmp_gt, lg_cmp_lt, lg_cmp_eq, v_147_44, v_147_45, v_147_48, v_147_49, v_147_50, v_147_51, hM.o, hM.r34, hM.x94 (k := i) (by omega), hc, t1]
      exact h
    · simp only [v_147_17_1, z10, z00, not_true_eq_false, not_false_eq_true, false_implies, true_implies, implies_true, nI_1, Int32.add_zero, true_or, or_true, true_and, and_true, eI_eq, eL_eq, eR_eq, eV_eq, lg_cmp_ge, lg_cmp_le, lg_cmp_gt, lg_cmp_lt, lg_cmp_eq, v_147_52, v_147_53, v_147_56, v_147_57, v_147_58, hM.o, hM.r35, hM.a95 (k := i) (by omega), hc, t2]
      exact h
    · simp only [v_147_17_2, z10, z00, not_true_eq_false, not_false_eq_true, false_implies, true_implies, implies_true, nI_1, Int32.add_zero, true_or, or_true, true_and, and_true, eI_eq, eL_eq, eR_eq, eV_eq, lg_cmp_ge, lg_cmp_le, lg_cmp_gt, lg_cmp_lt, lg_cmp_eq, v_147_59, v_147_60, v_147_63, v_147_64, v_147_65, hM.o, hM.r36, hM.a96 (k := i) (by omega), hc, t3]
      exact h
  · rw [v_147_17_d (hx := sw_out hw)]
    simp only [z10, z00, not_true_eq_false, not_false_eq_true, false_implies, true_implies, implies_true, nI_1, Int32.add_zero, true_or, or_true, true_and, and_true, eI_eq, eL_eq, eR_eq, eV_eq, lg_cmp_ge, lg_cmp_le, lg_cmp_gt, lg_cmp_lt, lg_cmp_eq, v_147_66, v_147_69]
    have n0 : ∀ (y : Int32), 0 ≤ y.toInt ∧ y.toInt ≤ 2 → ¬ w = y := fun y hy e => hw (by rw [e]; exact hy)
    simpa [n0 0 (by decide), n0 1 (by decide), n0 2 (by decide)] using h
/-- nothing but what way told is written -/
def scP (σ σ' : Sto) : Prop := sn σ' = sn σ ∧ gr σ' = gr σ ∧ (∀ a, a ≠ 94 → gi σ' a = gi σ a) ∧ (∀ a, a ≠ 95 → a ≠ 96 → gl σ' a = gl σ a)
theorem M_way_loop {b : B3} {σ : Sto} {K : Int32 → Sto → Prop} {S : Nat} {t i r : Int32} {ps : List (Nat × Int64 × Int64)} (hM : MB σ S) (hP : PT σ ps) (hl : ps.length ≤ 400) (hp : ∀ q, q ∈ ps → q.1 < S) : ∀ (n k : Nat) (σ1 : Sto), k + n = ps.length → scP σ σ1 → (∀ j q, j < k → ps.reverse[j]? = some q → gi σ1 94 j = rN (rwM σ q.1) ∧ gl σ1 95 j = q.2.1 ∧ gl σ1 96 j = q.2.2) → (∀ σ2, scP σ σ2 → (∀ j q, ps.reverse[j]? = some q → gi σ2 94 j = rN (rwM σ q.1) ∧ gl σ2 95 j = q.2.1 ∧ gl σ2 96 j = q.2.2) → K (nI ps.length) σ2) → Ev b 146 41 [aR (some 68), aI t, aI i, aI r, aI (nI k)] [] σ1 (eI K) := by
  intro n
  induction n with
  | zero =>
    intro k σ1 hk hs hz h
    have hk' : k = ps.length := by omega
    subst hk'
    have hM1 : MB σ1 S := by
      unfold MB at hM ⊢
      rw [hs.1, hs.2.1, hs.2.2.1 68 (by decide)]
      exact hM
    have e27 : gi σ1 68 27 = nI ps.length := by rw [hs.2.2.1 68 (by decide)]; exact hP.1
    have hle : nI ps.length ≤ nI ps.length := Int32.le_refl _
    rw [v_146_41]
    simp only [z10, z00, not_true_eq_false, not_false_eq_true, false_implies, true_implies, implies_true, nI_1, Int32.add_zero, true_or, or_true, true_and, and_true, eI_eq, eL_eq, eR_eq, eV_eq, lg_cmp_ge, lg_cmp_le, lg_cmp_gt, lg_cmp_lt, lg_cmp_eq, v_146_43, v_146_44, v_146_47, v_146_50, v_146_51, v_146_54, v_146_56, v_146_57, v_146_60, v_146_61, v_146_64, v_146_65, v_146_68, v_146_69, v_146_70, v_146_72, v_146_73, v_146_74, v_146_75, v_146_76, v_146_77, v_146_80, v_146_82, v_146_83, v_146_86, v_146_87, v_146_90, v_146_91, v_146_92, v_146_94, v_146_95, v_146_96, v_146_97, v_146_98, v_146_101, v_146_103, v_146_104, v_146_107, v_146_108, v_146_111, v_146_112, v_146_113, v_146_115, v_146_116, v_146_117, v_146_118, v_146_121, v_146_124, v_146_125, v_146_128, hM1.o, e27, hle]
    refine h σ1 hs (fun j q hq => hz j q ?_ hq)
    have := (List.getElem?_eq_some_iff.mp hq).1
    rwa [List.length_reverse] at this
  | succ n ih =>
    intro k σ1 hk hs hz h
    have hM1 : MB σ1 S := by
      unfold MB at hM ⊢
      rw [hs.1, hs.2.1, hs.2.2.1 68 (by decide)]
      exact hM
    have hS := hM.c
    have e27 : gi σ1 68 27 = nI ps.length := by rw [hs.2.2.1 68 (by decide)]; exact hP.1
    have hle : ¬ nI ps.length ≤ nI k := nI_ge (by omega) (by omega)
    have hc : (nI k).toNatClampNeg = k := nI_clamp (by omega)
    have hj : ps.length - 1 - k < ps.length := by omega
    have ei : nI ps.length - 1 - nI k = nI (ps.length - 1 - k) := by
      rw [show (1 : Int32) = nI 1 from rfl, pk_sub (by omega), pk_sub (by omega)]
    have hci : (nI (ps.length - 1 - k)).toNatClampNeg = ps.length - 1 - k := nI_clamp (by omega)
    have hq : ps[ps.length - 1 - k]? = some ps[ps.length - 1 - k] := List.getElem?_eq_getElem hj
    obtain ⟨p1, p2, p3⟩ := hP.2 _ _ hq
    have hqS := hp _ (List.mem_of_getElem? hq)
    generalize ps[ps.length - 1 - k] = q at hq p1 p2 p3 hqS
    have e89 : gi σ1 89 (ps.length - 1 - k) = nI q.1 := by rw [hs.2.2.1 89 (by decide)]; exact p1
    have e90 : gl σ1 90 (ps.length - 1 - k) = q.2.1 := by rw [hs.2.2.2 90 (by decide) (by decide)]; exact p2
    have e91 : gl σ1 91 (ps.length - 1 - k) = q.2.2 := by rw [hs.2.2.2 91 (by decide) (by decide)]; exact p3
    have hcq : (nI q.1).toNatClampNeg = q.1 := nI_clamp (by omega)
    have e70 : gi σ1 70 q.1 = rN (rwM σ q.1) := by rw [hs.2.2.1 70 (by decide)]; rfl
    have h27 : ∀ x, gi (si σ1 94 k x) 68 27 = nI ps.length := fun x => by rw [gi_si_r, if_neg (by decide)]; exact e27
    have h90 : ∀ x, gl (si σ1 94 k x) 90 (ps.length - 1 - k) = q.2.1 := fun x => e90
    have h91 : ∀ x y, gl (sl (si σ1 94 k x) 95 k y) 91 (ps.length - 1 - k) = q.2.2 := fun x y => by rw [gl_sl_r, if_neg (by decide)]; exact e91
    rw [v_146_41]
    simp only [z10, z00, not_true_eq_false, not_false_eq_true, false_implies, true_implies, implies_true, nI_1, Int32.add_zero, true_or, or_true, true_and, and_true, eI_eq, eL_eq, eR_eq, eV_eq, lg_cmp_ge, lg_cmp_le, lg_cmp_gt, lg_cmp_lt, lg_cmp_eq, v_146_43, v_146_44, v_146_47, v_146_50, v_146_51, v_146_54, v_146_56, v_146_57, v_146_60, v_146_61, v_146_64, v_146_65, v_146_68, v_146_69, v_146_70, v_146_72, v_146_73, v_146_74, v_146_75, v_146_76, v_146_77, v_146_80, v_146_82, v_146_83, v_146_86, v_146_87, v_146_90, v_146_91, v_146_92, v_146_94, v_146_95, v_146_96, v_146_97, v_146_98, v_146_101, v_146_103, v_146_104, v_146_107, v_146_108, v_146_111, v_146_112, v_146_113, v_146_115, v_146_116, v_146_117, v_146_118, v_146_121, v_146_124, v_146_125, v_146_128, hM1.o, hM1.r34, hM1.r35, hM1.r36, hM1.r2, hM1.r28, hM1.r29, hM1.r30, e27, hle, ei, hci, hc, hM1.x89 (k := _) (Nat.lt_of_lt_of_le hj hl), hM1.a90 (k := _) (Nat.lt_of_lt_of_le hj hl), hM1.a91 (k := _) (Nat.lt_of_lt_of_le hj hl), e89, hcq, hM1.x70 (k := q.1) (by omega), e70, hM1.a94 (k := k) (by omega), hM1.a95 (k := k) (by omega), hM1.a96 (k := k) (by omega), okO_si, okO_sl, okA_si, okA_sl, okX_si, okX_sl, gr_si_r, gr_sl_r, gi_sl_r, h27, h90, h91]
    refine ih (k + 1) _ (by omega) ⟨hs.1, hs.2.1, fun a ha => ?_, fun a h1 h2 => ?_⟩ (fun j q' hj' hq' => ?_) h
    · rw [gi_sl_r, gi_sl_r, gi_si_r, if_neg ha]; exact hs.2.2.1 a ha
    · rw [gl_sl_r, if_neg h2, gl_sl_r, if_neg h1, gl_si_r]; exact hs.2.2.2 a h1 h2
    · have f1 : ∀ x y z, gi (sl (sl (si σ1 94 k x) 95 k y) 96 k z) 94 j = if j = k then x else gi σ1 94 j := fun x y z => by rw [gi_sl_r, gi_sl_r, gi_si_r, if_pos rfl, up1]
      have f2 : ∀ x y z, gl (sl (sl (si σ1 94 k x) 95 k y) 96 k z) 95 j = if j = k then y else gl σ1 95 j := fun x y z => by rw [gl_sl_r, if_neg (by decide), gl_sl_r, if_pos rfl, up1, gl_si_r]
      have f3 : ∀ x y z, gl (sl (sl (si σ1 94 k x) 95 k y) 96 k z) 96 j = if j = k then z else gl σ1 96 j := fun x y z => by rw [gl_sl_r, if_pos rfl, gl_sl_r, if_neg (by decide), gl_si_r, up1]
      rw [f1, f2, f3]
      by_cases hjk : j = k
      · subst hjk
        rw [List.getElem?_reverse (by omega)] at hq'
        rw [hq] at hq'
        cases hq'
        simp
      · rw [if_neg hjk, if_neg hjk, if_neg hjk]
        exact hz j q' (by omega) hq'
