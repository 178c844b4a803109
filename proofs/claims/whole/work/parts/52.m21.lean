/-! the reference: close, whole -/
def inO (f : Nat → Int32) : Option Nat → Nat → Int32
  | some o => up1 f o (f o + 1)
  | none => f
def byA (s : Int32) (len : Int64) (f : Bool) (q : Nat) (qu : Int32) : Int32 := if 0 < s ∧ s.toInt64 ≤ len then 1 else if f then 2 else if nI q < qu then 3 else 0
def clP (σ : Sto) (C t : Nat) (path : List Int32) (w : Int32) (lt : Option Nat) (σ2 : Sto) : Prop :=
  sn σ2 = sn σ ∧ gr σ2 = gr σ ∧ (∀ a, a ≠ 68 → a ≠ 78 → a ≠ 79 → a ≠ 80 → a ≠ 89 → a ≠ 92 → a ≠ 98 → a ≠ 99 → a ≠ 100 → gi σ2 a = gi σ a) ∧ (∀ k, k ≠ 18 → k ≠ 27 → k ≠ 42 → k ≠ 17 → gi σ2 68 k = gi σ 68 k) ∧ (∀ a, a ≠ 90 → a ≠ 91 → a ≠ 93 → gl σ2 a = gl σ a) ∧ gi σ2 68 42 = nI (C + 1) ∧ gi σ2 100 = up1 (gi σ 100) C (nI t) ∧ gi σ2 80 = up1 (gi σ 80) t w ∧ gi σ2 78 = up1 (gi σ 78) t (if 0 < w then 1 else 2) ∧ gi σ2 79 = (if 0 < w then up1 (gi σ 79) t 1 else inO (gi σ 79) lt) ∧ gi σ2 68 17 = (if 0 < w ∨ ¬ lt = none then gi σ 68 17 else gi σ 68 17 + 1) ∧ PH σ2 t path ∧ (∀ o l, o ≠ t → l.length ≤ 400 → PH σ o l → PH σ2 o l)
/-- what the end of close begins with: a path was written -/
def clB (σ : Sto) (t : Nat) (path : List Int32) (σ1 : Sto) : Prop :=
  sn σ1 = sn σ ∧ gr σ1 = gr σ ∧ (∀ a, a ≠ 68 → a ≠ 89 → a ≠ 92 → a ≠ 98 → a ≠ 99 → gi σ1 a = gi σ a) ∧ (∀ k, k ≠ 18 → k ≠ 27 → gi σ1 68 k = gi σ 68 k) ∧ (∀ a, a ≠ 90 → a ≠ 91 → a ≠ 93 → gl σ1 a = gl σ a) ∧ PH σ1 t path ∧ (∀ o l, o ≠ t → l.length ≤ 400 → PH σ o l → PH σ1 o l)
theorem M_close_end {b : B3} {σ σ1 : Sto} {K : Int32 → Sto → Prop} {S C t : Nat} {path : List Int32} {w : Int32} {lt : Option Nat} {r f q s : Int32} (hM1 : MB σ1 S) (hB : clB σ t path σ1) (hC : gi σ 68 42 = nI C) (hC2 : C < 20) (ht : t < 20) (hlt : ∀ o, lt = some o → o < 20) (h : ∀ σ2, clP σ C t path w lt σ2 → K w σ2) : Ev b 152 351 [aR (some 68), aI (nI t), aI r, aI f, aI q, aI (ofN lt), aI s, aI w] [] σ1 (eI K) := by
  obtain ⟨b1, b2, b3, b4, b5, b6, b7⟩ := hB
  have hct : (nI t).toNatClampNeg = t := nI_clamp (by omega)
  have hcC : (nI C).toNatClampNeg = C := nI_clamp (by omega)
  have e42 : gi σ1 68 42 = nI C := by rw [b4 42 (by decide) (by decide)]; exact hC
  have e42' : ∀ x, gi (si σ1 100 C x) 68 42 = nI C := fun x => by rw [gi_si_r, if_neg (by decide)]; exact e42
  have hsm : ∀ k, lt = some k → k < 2 ^ 31 := fun k e => by have := hlt k e; omega
  have g78 : ∀ x y z, gi (si (si (si (si σ1 100 C x) 68 42 y) 80 t w) 78 t z) 78 = up1 (gi σ 78) t z := fun x y z => by
    rw [gi_si_r, if_pos rfl, gi_si_r, if_neg (by decide), gi_si_r, if_neg (by decide), gi_si_r, if_neg (by decide), b3 78 (by decide) (by decide) (by decide) (by decide) (by decide)]
  have g80 : ∀ x y z, gi (si (si (si (si σ1 100 C x) 68 42 y) 80 t w) 78 t z) 80 = up1 (gi σ 80) t w := fun x y z => by
    rw [gi_si_r, if_neg (by decide), gi_si_r, if_pos rfl, gi_si_r, if_neg (by decide), gi_si_r, if_neg (by decide), b3 80 (by decide) (by decide) (by decide) (by decide) (by decide)]
  have g79 : ∀ x y z, gi (si (si (si (si σ1 100 C x) 68 42 y) 80 t w) 78 t z) 79 = gi σ 79 := fun x y z => by
    rw [gi_si_r, if_neg (by decide), gi_si_r, if_neg (by decide), gi_si_r, if_neg (by decide), gi_si_r, if_neg (by decide), b3 79 (by decide) (by decide) (by decide) (by decide) (by decide)]
  have g100 : ∀ x y z, gi (si (si (si (si σ1 100 C x) 68 42 y) 80 t w) 78 t z) 100 = up1 (gi σ 100) C x := fun x y z => by
    rw [gi_si_r, if_neg (by decide), gi_si_r, if_neg (by decide), gi_si_r, if_neg (by decide), gi_si_r, if_pos rfl, b3 100 (by decide) (by decide) (by decide) (by decide) (by decide)]
  have g68 : ∀ x y z, gi (si (si (si (si σ1 100 C x) 68 42 y) 80 t w) 78 t z) 68 = up1 (gi σ1 68) 42 y := fun x y z => by
    rw [gi_si_r, if_neg (by decide), gi_si_r, if_neg (by decide), gi_si_r, if_pos rfl, gi_si_r, if_neg (by decide)]
  have gO : ∀ a x y z, a ≠ 68 → a ≠ 78 → a ≠ 80 → a ≠ 100 → gi (si (si (si (si σ1 100 C x) 68 42 y) 80 t w) 78 t z) a = gi σ1 a := fun a x y z h1 h2 h3 h4 => by
    rw [gi_si_r, if_neg h2, gi_si_r, if_neg h3, gi_si_r, if_neg h1, gi_si_r, if_neg h4]
  generalize hz : (if 0 < w then (1 : Int32) else 2) = z at *
  have c8 : ∀ (y : Int32), (0 < w → y = 1) → (¬ 0 < w → y = 2) → Ev b 152 395 [aR (some 68), aI (nI t), aI r, aI f, aI q, aI (ofN lt), aI s, aI w] [] (si (si (si (si σ1 100 C (nI t)) 68 42 (nI (C + 1))) 80 t w) 78 t y) (eI K) := by
    intro y hy1 hy2
    generalize hτ : si (si (si (si σ1 100 C (nI t)) 68 42 (nI (C + 1))) 80 t w) 78 t y = τ
    have hMτ : MB τ S := by subst hτ; exact hM1
    have t1 : sn τ = sn σ := by subst hτ; exact b1
    have t2 : gr τ = gr σ := by subst hτ; exact b2
    have t3 : gl τ = gl σ1 := by subst hτ; rfl
    have t78 : gi τ 78 = up1 (gi σ 78) t (if 0 < w then 1 else 2) := by
      subst hτ
      rw [g78]
      by_cases hw : 0 < w
      · rw [hy1 hw, if_pos hw]
      · rw [hy2 hw, if_neg hw]
    have t80 : gi τ 80 = up1 (gi σ 80) t w := by subst hτ; exact g80 _ _ _
    have t79 : gi τ 79 = gi σ 79 := by subst hτ; exact g79 _ _ _
    have t100 : gi τ 100 = up1 (gi σ 100) C (nI t) := by subst hτ; exact g100 _ _ _
    have t68 : gi τ 68 = up1 (gi σ1 68) 42 (nI (C + 1)) := by subst hτ; exact g68 _ _ _
    have tO : ∀ a, a ≠ 68 → a ≠ 78 → a ≠ 80 → a ≠ 100 → gi τ a = gi σ1 a := by subst hτ; exact fun a => gO a _ _ _
    have mk : ∀ σ2, sn σ2 = sn τ → gr σ2 = gr τ → gl σ2 = gl τ → (∀ a, a ≠ 68 → a ≠ 79 → gi σ2 a = gi τ a) → (∀ k, k ≠ 17 → gi σ2 68 k = gi τ 68 k) → gi σ2 79 = (if 0 < w then up1 (gi σ 79) t 1 else inO (gi σ 79) lt) → gi σ2 68 17 = (if 0 < w ∨ ¬ lt = none then gi σ 68 17 else gi σ 68 17 + 1) → K w σ2 := by
      intro σ2 m1 m2 m3 m4 m5 m6 m7
      refine h σ2 ⟨m1.trans t1, m2.trans t2, fun a h1 h2 h3 h4 h5 h6 h7 h8 h9 => ?_, fun k h1 h2 h3 h4 => ?_, fun a h1 h2 h3 => ?_, ?_, ?_, ?_, ?_, m6, m7, ?_, fun o l ho hl hp => ?_⟩
      · rw [m4 a h1 h3, tO a h1 h2 h4 h9, b3 a h1 h5 h6 h7 h8]
      · rw [m5 k h4, t68, up1, if_neg h3, b4 k h1 h2]
      · rw [m3, t3, b5 a h1 h2 h3]
      · rw [m5 42 (by decide), t68, up1, if_pos rfl]
      · rw [m4 100 (by decide) (by decide), t100]
      · rw [m4 80 (by decide) (by decide), t80]
      · rw [m4 78 (by decide) (by decide), t78]
      · unfold PH at b6 ⊢
        rw [m4 98 (by decide) (by decide), m4 99 (by decide) (by decide), tO 98 (by decide) (by decide) (by decide) (by decide), tO 99 (by decide) (by decide) (by decide) (by decide)]
        exact b6
      · have := b7 o l ho hl hp
        unfold PH at this ⊢
        rw [m4 98 (by decide) (by decide), m4 99 (by decide) (by decide), tO 98 (by decide) (by decide) (by decide) (by decide), tO 99 (by decide) (by decide) (by decide) (by decide)]
        exact this
    have e17 : gi τ 68 17 = gi σ 68 17 := by rw [t68, up1, if_neg (by decide), b4 17 (by decide) (by decide)]
    simp only [z10, z00, not_true_eq_false, not_false_eq_true, false_implies, true_implies, implies_true, nI_1, Int32.add_zero, true_or, or_true, true_and, and_true, eI_eq, eL_eq, eR_eq, eV_eq, lg_cmp_ge, lg_cmp_le, lg_cmp_gt, lg_cmp_lt, lg_cmp_eq, v_152_395, v_152_397, v_152_400, v_152_401, v_152_404, v_152_405, v_152_406, v_152_407, v_152_410, v_152_412, v_152_415, v_152_416, v_152_419, v_152_421, v_152_422, v_152_423, v_152_424, v_152_425, v_152_426, v_152_429, v_152_430, v_152_431, v_152_434, v_152_435, v_152_436, v_152_439, v_152_441, hMτ.o, hMτ.r11, hMτ.a79 (k := t) ht, hct, ofN_neg hsm]
    refine ⟨fun g => ⟨fun g2 => ?_, fun g2 => ?_⟩, fun g => ?_⟩
    · have hw : ¬ 0 < w := Int32.not_lt.mpr g
      refine mk _ rfl rfl rfl (fun a h1 h2 => by rw [gi_si_r, if_neg h1]) (fun k h1 => by rw [gi_si_r, if_pos rfl, up1, if_neg h1]) ?_ ?_
      · rw [gi_si_r, if_neg (by decide), t79, if_neg hw, g2]; rfl
      · rw [gi_si_r, if_pos rfl, up1, if_pos rfl, e17, if_neg (fun q => q.elim hw (fun q => q g2))]
    · have hw : ¬ 0 < w := Int32.not_lt.mpr g
      cases hl : lt with
      | none => exact absurd hl g2
      | some o =>
        have ho := hlt o hl
        have hco : (nI o).toNatClampNeg = o := nI_clamp (by omega)
        have eo : ofN (some o) = nI o := rfl
        simp only [eo, hMτ.x79 (k := o) ho, hMτ.a79 (k := o) ho, hco, z10, z00, not_true_eq_false, not_false_eq_true, false_implies, true_implies, implies_true, true_and, and_true, true_or, or_true, false_and, and_false, false_or, or_false]
        refine mk _ rfl rfl rfl (fun a h1 h2 => by rw [gi_si_r, if_neg h2]) (fun k h1 => by rw [gi_si_r, if_neg (by decide)]) ?_ ?_
        · rw [gi_si_r, if_pos rfl, t79, if_neg hw, hl]; rfl
        · rw [gi_si_r, if_neg (by decide), e17, if_pos (Or.inr g2)]
    · have hw : 0 < w := Int32.not_le.mp g
      refine mk _ rfl rfl rfl (fun a h1 h2 => by rw [gi_si_r, if_neg h2]) (fun k h1 => by rw [gi_si_r, if_neg (by decide)]) ?_ ?_
      · rw [gi_si_r, if_pos rfl, t79, if_pos hw]
      · rw [gi_si_r, if_neg (by decide), e17, if_pos (Or.inl hw)]
  simp only [z10, z00, not_true_eq_false, not_false_eq_true, false_implies, true_implies, implies_true, nI_1, Int32.add_zero, true_or, or_true, true_and, and_true, eI_eq, eL_eq, eR_eq, eV_eq, lg_cmp_ge, lg_cmp_le, lg_cmp_gt, lg_cmp_lt, lg_cmp_eq, v_152_351, v_152_352, v_152_355, v_152_356, v_152_359, v_152_360, v_152_361, v_152_362, v_152_363, v_152_366, v_152_367, v_152_368, v_152_371, v_152_372, v_152_375, v_152_376, v_152_378, v_152_379, v_152_380, v_152_383, v_152_384, v_152_386, v_152_389, v_152_390, v_152_393, v_152_394, hM1.o, hM1.r10, hM1.r12, hM1.r41, e42, e42', hcC, hct, hM1.a100 (k := C) hC2, hM1.a80 (k := t) ht, hM1.a78 (k := t) ht, okO_si, okA_si, gr_si_r, nI_1]
  exact ⟨fun g => c8 2 (fun q => absurd g (Int32.not_le.mpr q)) (fun _ => rfl), fun g => c8 1 (fun _ => rfl) (fun q => absurd (Int32.not_le.mp g) q)⟩
theorem ddS_len : ∀ (l acc : List Int32), (l.foldl ddS acc).length ≤ acc.length + l.length
  | [], acc => by simp
  | x :: l, acc => by
    have := ddS_len l (ddS acc x)
    have h2 : (ddS acc x).length ≤ acc.length + 1 := by unfold ddS; split <;> simp
    simp only [List.foldl_cons, List.length_cons]
    omega
theorem qt_lt {same : Nat → Bool} {st kb : Nat → Int32} : ∀ (l : List Nat) (p : Nat × Option Nat), (∀ o, o ∈ l → o < 20) → (∀ o, p.2 = some o → o < 20) → ∀ o, (l.foldl (fun p o => qtS same st kb o p) p).2 = some o → o < 20
  | [], p, _, hp, o, h => hp o h
  | a :: l, p, hl, hp, o, h => by
    refine qt_lt l (qtS same st kb a p) (fun o ho => hl o (List.mem_cons_of_mem _ ho)) (fun o ho => ?_) o h
    unfold qtS at ho
    split at ho
    · cases ho; exact hl a (List.mem_cons_self ..)
    · exact hp o ho
theorem OD_mem {σ : Sto} : ∀ (l : List Nat) (c : Nat), OD σ c l → ∀ o, o ∈ l → o < 20
  | [], _, _, o, h => by cases h
  | t :: l, c, hO, o, h => by
    rcases List.mem_cons.mp h with e | e
    · rw [e]; exact hO.1
    · exact OD_mem l (c + 1) hO.2.2 o e
theorem OD_of {σ σ' : Sto} (h : gi σ' 100 = gi σ 100) : ∀ (l : List Nat) (c : Nat), OD σ c l → OD σ' c l
  | [], _, _ => trivial
  | t :: l, c, hO => ⟨hO.1, by rw [h]; exact hO.2.1, OD_of h l (c + 1) hO.2.2⟩
def ptO (σ : Sto) (ps : List (Nat × Int64 × Int64)) : List Int32 := (ps.reverse.map (fun q => plR (rwM σ q.1))).foldl ddS []
def qtO (σ : Sto) (pth : Nat → List Int32) (t : Nat) (ol : List Nat) : Nat × Option Nat := ol.foldl (fun p o => qtS (fun o => eqL (pth o) (pth t)) (gi σ 78) (gi σ 80) o p) (0, none)
theorem M_close {d : Nat} {σ : Sto} {K : Int32 → Sto → Prop} {S C : Nat} {x : Int32} {n : Nat} {ol : List Nat} {pth : Nat → List Int32} (hM : MB σ S) (hR : ∀ k, k < S → okR (rwM σ k)) (hm : mvB (gl σ 86)) (hn : n ≤ 62) (hwk : ∀ r, r < S → ∃ l, wkM σ S n r = some l ∧ l.length ≤ 400) (hC : gi σ 68 42 = nI C) (hC2 : C ≤ 20) (hol : ol.length = C) (hO : OD σ 0 ol) (hpl : ∀ o, (pth o).length ≤ 400) (hph : ∀ o, o < 20 → PH σ o (pth o)) (h0 : (x < 0 ∨ 20 ≤ x) → K (-1) σ) (h1 : ∀ t, t < 20 → x = nI t → ((0 < gi σ 78 t ∨ fnd (raB σ S x 0) 0 S = none) → ∀ v, K (-3) (dp σ v)) ∧ (¬ 0 < gi σ 78 t → ∀ r l, fnd (raB σ S x 0) 0 S = some r → r < S → wkM σ S n r = some l → C < 20 ∧ ∀ σ2, clP σ C t (ptO σ l) (byA (gi σ 97 (rC (rwM σ r)).toNatClampNeg) (rE (rwM σ r) - rB (rwM σ r)) (anB (flT σ x) 0 S) (qtO σ (up1 pth t (ptO σ l)) t ol).1 (gi σ 68 38)) (qtO σ (up1 pth t (ptO σ l)) t ol).2 σ2 → K (byA (gi σ 97 (rC (rwM σ r)).toNatClampNeg) (rE (rwM σ r) - rB (rwM σ r)) (anB (flT σ x) 0 S) (qtO σ (up1 pth t (ptO σ l)) t ol).1 (gi σ 68 38)) σ2)) : CI (d + 6) 152 [aR (some 68), aI x] σ K := by
  have hS := hM.c
  refine CI_of ?_
  show Ev (d + 6, 0, 0) 152 0 [aR (some 68), aI x, aU, aU, aU, aU, aU, aU] [] σ _
  simp only [z10, z00, not_true_eq_false, not_false_eq_true, false_implies, true_implies, implies_true, nI_1, Int32.add_zero, true_or, or_true, true_and, and_true, eI_eq, eL_eq, eR_eq, eV_eq, lg_cmp_ge, lg_cmp_le, lg_cmp_gt, lg_cmp_lt, lg_cmp_eq, v_152_0, v_152_1, v_152_2, v_152_5, v_152_8, v_152_9, v_152_10, v_152_11, v_152_12, v_152_13, hM.o]
  refine M_isTrace (fun c => ?_) (fun c1 c2 => ?_)
  · simp only [z10, z00, not_true_eq_false, not_false_eq_true, false_implies, true_implies, implies_true, true_and, and_true, true_or, or_true, false_and, and_false, false_or, or_false]
    exact h0 c
  · simp only [hM.o, z10, z00, not_true_eq_false, not_false_eq_true, false_implies, true_implies, implies_true, true_and, and_true, true_or, or_true, false_and, and_false, false_or, or_false]
    obtain ⟨t, ht, et⟩ := ix_of (n := 20) (by decide) c1 c2
    obtain ⟨hA, hB⟩ := h1 t ht et
    subst et
    have hct : (nI t).toNatClampNeg = t := nI_clamp (by omega)
    refine M_rootAt hM (fun v => ?_)
    have hsv := scW.dp σ v
    have hMv := hsv.mb hM
    have e78 : gi (dp σ v) 78 t = gi σ 78 t := by rw [hsv.2.2.1 78 (by decide) (by decide) (by decide)]
    simp only [z10, z00, not_true_eq_false, not_false_eq_true, false_implies, true_implies, implies_true, nI_1, Int32.add_zero, true_or, or_true, true_and, and_true, eI_eq, eL_eq, eR_eq, eV_eq, lg_cmp_ge, lg_cmp_le, lg_cmp_gt, lg_cmp_lt, lg_cmp_eq, v_152_16, v_152_17, v_152_18, v_152_21, v_152_22, v_152_23, v_152_26, v_152_27, v_152_30, v_152_32, v_152_33, v_152_34, v_152_35, hMv.o, hMv.r10, hMv.x78 (k := t) ht, hct, e78]
    refine ⟨fun g => hA (Or.inl g) v, fun g => ?_⟩
    cases hf : fnd (raB σ S (nI t) 0) 0 S with
    | none =>
      have cc : ¬ (0 : Int32) ≤ ofN none := by decide
      simp only [cc, z10, z00, not_true_eq_false, not_false_eq_true, false_implies, true_implies, implies_true, true_and, and_true, true_or, or_true, false_and, and_false, false_or, or_false]
      exact hA (Or.inr hf) v
    | some r =>
      have hr : r < S := by have := fnd_lt _ _ _ _ hf; omega
      have cc : (0 : Int32) ≤ nI r := nI_pos' (by omega)
      have hcr : (nI r).toNatClampNeg = r := nI_clamp (by omega)
      obtain ⟨l, hl, hl2⟩ := hwk r hr
      obtain ⟨hC20, hK⟩ := hB g r l hf hr hl
      have eo : ofN (some r) = nI r := rfl
      simp only [eo, cc, hMv.o, z10, z00, not_true_eq_false, not_false_eq_true, false_implies, true_implies, implies_true, true_and, and_true, true_or, or_true, false_and, and_false, false_or, or_false]
      have hl' : wkM (dp σ v) S n r = some l := by rw [wkM_of hsv]; exact hl
      refine M_walk hMv (by rw [hsv.rw]; exact hR) (by rw [hsv.mv]; exact hm) hr hn hl' hl2 (fun σ2 hs2 hp2 => ?_)
      have hsw := hsv.trans hs2
      have hM2 := hsw.mb hM
      have hmem : ∀ q, q ∈ l → q.1 < S := wkO_mem (S := S) (fun x c f k e => (nxM_lt e).1) n r _ _ l hr hl
      have e1 : nI l.length - 1 = nI l.length + (-1) := by
        cases l.length with
        | zero => decide
        | succ n => rw [pk_m1, nI_pred]
      have e27 : gi (si σ2 99 t 0) 68 27 = nI l.length := by rw [gi_si_r, if_neg (by decide)]; exact hp2.1
      have hsc0 : scC t σ2 (si σ2 99 t 0) := ⟨rfl, rfl, fun a _ h2 => by rw [gi_si_r, if_neg h2], fun i hi => by rw [gi_si_r, if_pos rfl, up1, if_neg hi], fun i _ => by rw [gi_si_r, if_neg (by decide)], rfl⟩
      simp only [z10, z00, not_true_eq_false, not_false_eq_true, false_implies, true_implies, implies_true, nI_1, Int32.add_zero, true_or, or_true, true_and, and_true, eI_eq, eL_eq, eR_eq, eV_eq, lg_cmp_ge, lg_cmp_le, lg_cmp_gt, lg_cmp_lt, lg_cmp_eq, v_152_38, v_152_39, v_152_42, v_152_43, v_152_44, v_152_45, v_152_46, v_152_49, v_152_50, v_152_51, hM2.o, hM2.r40, hM2.a99 (k := t) ht, hct, okO_si, e27, e1]
      refine M_close_path hM2 (by rw [hsw.rw]; exact hR) hp2 hmem hl2 ht l.length _ [] _ _ _ _ (by omega) (by simpa using hl2) hsc0 ⟨by rw [gi_si_r, if_pos rfl, up1, if_pos rfl]; rfl, fun i q e => by cases e⟩ (fun σ3 u4 u5 hs3 hph3 => ?_)
      rw [List.take_length, hsw.rw] at hph3
      have hph3 : PH σ3 t (ptO σ l) := hph3
      have hM3 := hs3.mb hM2
      have hrw3 : rwM σ3 = rwM σ := by rw [hs3.rw, hsw.rw]
      have g3 : ∀ a, a ≠ 68 → a ≠ 89 → a ≠ 92 → a ≠ 98 → a ≠ 99 → gi σ3 a = gi σ a := fun a h1 h2 h3 h4 h5 => by rw [hs3.2.2.1 a h4 h5, hsw.2.2.1 a h1 h2 h3]
      have k3 : ∀ k, k ≠ 18 → k ≠ 27 → gi σ3 68 k = gi σ 68 k := fun k h1 h2 => by rw [hs3.2.2.1 68 (by decide) (by decide), hsw.2.2.2.1 k h1 h2]
      have l3 : ∀ a, a ≠ 90 → a ≠ 91 → a ≠ 93 → gl σ3 a = gl σ a := fun a h1 h2 h3 => by rw [hs3.2.2.2.2.2, hsw.2.2.2.2 a h1 h2 h3]
      have hplen : (ptO σ l).length ≤ 400 := by
        have := ddS_len (l.reverse.map (fun q => plR (rwM σ q.1))) []
        simp only [List.length_map, List.length_reverse, List.length_nil] at this
        unfold ptO
        omega
      have hph0 : ∀ o l, o < 20 → PH σ o l → PH σ2 o l := fun o l _ hp => by
        unfold PH at hp ⊢
        rw [hsw.2.2.1 98 (by decide) (by decide) (by decide), hsw.2.2.1 99 (by decide) (by decide) (by decide)]
        exact hp
      have hph0' : ∀ o l, PH σ o l → PH σ2 o l := fun o l hp => by
        unfold PH at hp ⊢
        rw [hsw.2.2.1 98 (by decide) (by decide) (by decide), hsw.2.2.1 99 (by decide) (by decide) (by decide)]
        exact hp
      have hclB : clB σ t (ptO σ l) σ3 := ⟨by rw [hs3.1, hsw.1], by rw [hs3.2.1, hsw.2.1], g3, k3, l3, hph3, fun o l ho hl hp => hs3.ph ho hl (hph0' o l hp)⟩
      have hpth : ∀ o, o < 20 → PH σ3 o (up1 pth t (ptO σ l) o) := fun o ho => by
        unfold up1
        by_cases e : o = t
        · rw [if_pos e, e]; exact hph3
        · rw [if_neg e]; exact hs3.ph e (hpl o) (hph0 o _ ho (hph o ho))
      have hpl' : ∀ o, (up1 pth t (ptO σ l) o).length ≤ 400 := fun o => by
        unfold up1
        split
        · exact hplen
        · exact hpl o
      simp only [z10, z00, not_true_eq_false, not_false_eq_true, false_implies, true_implies, implies_true, nI_1, Int32.add_zero, true_or, or_true, true_and, and_true, eI_eq, eL_eq, eR_eq, eV_eq, lg_cmp_ge, lg_cmp_le, lg_cmp_gt, lg_cmp_lt, lg_cmp_eq, v_152_151, v_152_152, v_152_153, v_152_154]
      have hfl : flT σ3 (nI t) = flT σ (nI t) := by funext k; unfold flT; rw [hrw3]
      have e42 : gi σ3 68 42 = nI C := by rw [k3 42 (by decide) (by decide)]; exact hC
      refine M_close_fails (S := S) hM3 S 0 false (by omega) ?_
      rw [Bool.false_or, hfl]
      simp only [z10, z00, not_true_eq_false, not_false_eq_true, false_implies, true_implies, implies_true, nI_1, Int32.add_zero, true_or, or_true, true_and, and_true, eI_eq, eL_eq, eR_eq, eV_eq, lg_cmp_ge, lg_cmp_le, lg_cmp_gt, lg_cmp_lt, lg_cmp_eq, v_152_203, v_152_204, v_152_206, v_152_207, v_152_209, v_152_210]
      refine M_close_quota (pth := up1 pth t (ptO σ l)) hM3 e42 hC2 ht hpl' hpth ol 0 (0, none) _ (by omega) (OD_of (g3 100 (by decide) (by decide) (by decide) (by decide) (by decide)) ol 0 hO) (fun u7 => ?_)
      rw [g3 78 (by decide) (by decide) (by decide) (by decide) (by decide), g3 80 (by decide) (by decide) (by decide) (by decide) (by decide)]
      have eq : ol.foldl (fun p o => qtS (fun o => eqL (up1 pth t (ptO σ l) o) (up1 pth t (ptO σ l) t)) (gi σ 78) (gi σ 80) o p) (0, none) = qtO σ (up1 pth t (ptO σ l)) t ol := rfl
      rw [eq]
      have hlt : ∀ o, (qtO σ (up1 pth t (ptO σ l)) t ol).2 = some o → o < 20 := qt_lt ol (0, none) (OD_mem ol 0 hO) (fun o e => by cases e)
      generalize hqq : qtO σ (up1 pth t (ptO σ l)) t ol = qq at hK hlt
      obtain ⟨-, -, -, -, ⟨a, ha, ea⟩, -⟩ := hR r hr
      have hca : (nI a).toNatClampNeg = a := nI_clamp (by omega)
      have e73 : gi σ3 73 r = nI a := by rw [g3 73 (by decide) (by decide) (by decide) (by decide) (by decide)]; exact ea
      have e97 : gi σ3 97 = gi σ 97 := g3 97 (by decide) (by decide) (by decide) (by decide) (by decide)
      have e76 : gl σ3 76 r = rB (rwM σ r) := by rw [l3 76 (by decide) (by decide) (by decide)]; rfl
      have e77 : gl σ3 77 r = rE (rwM σ r) := by rw [l3 77 (by decide) (by decide) (by decide)]; rfl
      have e38 : gi σ3 68 38 = gi σ 68 38 := k3 38 (by decide) (by decide)
      rw [ea, hca] at hK
      have fin : ∀ w, w = byA (gi σ 97 a) (rE (rwM σ r) - rB (rwM σ r)) (anB (flT σ (nI t)) 0 S) qq.1 (gi σ 68 38) → Ev (d + 6, 0, 0) 152 351 [aR (some 68), aI (nI t), aI (nI r), aI (bI (anB (flT σ (nI t)) 0 S)), aI (nI qq.1), aI (ofN qq.2), aI (gi σ 97 a), aI w] [] σ3 (eI K) := by
        intro w ew
        rw [← ew] at hK
        exact M_close_end hM3 hclB hC hC20 ht hlt hK
      simp only [z10, z00, not_true_eq_false, not_false_eq_true, false_implies, true_implies, implies_true, nI_1, Int32.add_zero, true_or, or_true, true_and, and_true, eI_eq, eL_eq, eR_eq, eV_eq, lg_cmp_ge, lg_cmp_le, lg_cmp_gt, lg_cmp_lt, lg_cmp_eq, v_152_285, v_152_286, v_152_289, v_152_290, v_152_293, v_152_294, v_152_295, v_152_296, v_152_298, v_152_300, v_152_303, v_152_304, v_152_307, v_152_308, v_152_309, v_152_310, v_152_313, v_152_314, v_152_315, v_152_316, v_152_318, v_152_319, v_152_320, v_152_323, v_152_324, v_152_327, v_152_328, v_152_331, v_152_332, v_152_335, v_152_337, v_152_338, v_152_341, v_152_344, v_152_345, v_152_348, v_152_349, hM3.o, hM3.r37, hM3.r5, hM3.r8, hM3.r9, hM3.x73 (k := r) (by omega), hM3.a76 (k := r) (by omega), hM3.a77 (k := r) (by omega), hcr, e73, hM3.x97 (k := a) ha, hca, e97, e76, e77, e38]
      unfold byA at fin
      have tail : ¬ (0 < gi σ 97 a ∧ (gi σ 97 a).toInt64 ≤ rE (rwM σ r) - rB (rwM σ r)) → (bI (anB (flT σ (nI t)) 0 S) = 0 → (gi σ 68 38 ≤ nI qq.1 → Ev (d + 6, 0, 0) 152 351 [aR (some 68), aI (nI t), aI (nI r), aI (bI (anB (flT σ (nI t)) 0 S)), aI (nI qq.1), aI (ofN qq.2), aI (gi σ 97 a), aI 0] [] σ3 (eI K)) ∧ (¬ gi σ 68 38 ≤ nI qq.1 → Ev (d + 6, 0, 0) 152 351 [aR (some 68), aI (nI t), aI (nI r), aI (bI (anB (flT σ (nI t)) 0 S)), aI (nI qq.1), aI (ofN qq.2), aI (gi σ 97 a), aI 3] [] σ3 (eI K))) ∧ (¬ bI (anB (flT σ (nI t)) 0 S) = 0 → Ev (d + 6, 0, 0) 152 351 [aR (some 68), aI (nI t), aI (nI r), aI (bI (anB (flT σ (nI t)) 0 S)), aI (nI qq.1), aI (ofN qq.2), aI (gi σ 97 a), aI 2] [] σ3 (eI K)) := by
        intro hns
        rw [if_neg hns] at fin
        cases hfa : anB (flT σ (nI t)) 0 S with
        | true =>
          rw [hfa] at fin
          exact ⟨fun q => absurd q (by decide), fun _ => fin 2 (by simp)⟩
        | false =>
          rw [hfa] at fin
          exact ⟨fun _ => ⟨fun q => fin 0 (by simp [Int32.not_lt.mpr q]), fun q => fin 3 (by simp [Int32.not_le.mp q])⟩, fun q => absurd rfl q⟩
      refine ⟨fun g4 => tail (fun q => Int32.not_lt.mpr g4 q.1), fun g4 => ⟨fun g5 => tail (fun q => Int64.not_lt.mpr q.2 g5), fun g5 => fin 1 (by rw [if_pos ⟨Int32.not_le.mp g4, Int64.not_lt.mp g5⟩])⟩⟩
