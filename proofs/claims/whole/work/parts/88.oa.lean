/-! the reference's answers stay where its rows stay -/
section
variable {σ σ' : Sto}
theorem roB_of (h : rwM σ' = rwM σ) (S : Nat) : roB σ' S = roB σ S := by
  funext t k; unfold roB; rw [uM_of h, h]
theorem raB_of (h : rwM σ' = rwM σ) (S : Nat) : raB σ' S = raB σ S := by
  funext o i k; unfold raB; rw [roB_of h, h]
theorem kaB_of (h : rwM σ' = rwM σ) (S : Nat) : kaB σ' S = kaB σ S := by
  funext o i k; unfold kaB; rw [kiB_of h, h]
theorem paB_of (h : rwM σ' = rwM σ) (S : Nat) : paB σ' S = paB σ S := by
  funext k; unfold paB; rw [uM_of h, h]
theorem fhB_of (h : rwM σ' = rwM σ) : fhB σ' = fhB σ := by
  funext k o; unfold fhB; rw [h]
theorem spA_of (h : rwM σ' = rwM σ) (S : Nat) : spA σ' S = spA σ S := by
  funext k w; unfold spA; rw [uM_of h, kiB_of h, h]
theorem noA_of (h : rwM σ' = rwM σ) : noA σ' = noA σ := by
  funext r; unfold noA; rw [h]
theorem trB_of (h : rwM σ' = rwM σ) (S : Nat) : trB σ' S = trB σ S := by
  funext t w k; unfold trB; rw [uM_of h, paB_of h, fhB_of h, h]
theorem svB_of (h : rwM σ' = rwM σ) (S : Nat) : svB σ' S = svB σ S := by
  funext k o; unfold svB; rw [uM_of h, h]
theorem svY_of (h : rwM σ' = rwM σ) (S : Nat) : svY σ' S = svY σ S := by
  funext y k o; unfold svY; rw [svB_of h, h]
theorem svF_of (h : rwM σ' = rwM σ) (S : Nat) : svF σ' S = svF σ S := by
  funext y k o; unfold svF; rw [svY_of h, h]
theorem flB_of (h : rwM σ' = rwM σ) (S : Nat) : flB σ' S = flB σ S := by
  funext x y w k; unfold flB; rw [svB_of h, svY_of h, svF_of h, h]
theorem bdS_of (h : rwM σ' = rwM σ) (S : Nat) : bdS σ' S = bdS σ S := by
  funext k o; unfold bdS; rw [uM_of h, h]
theorem bdA_of (h : rwM σ' = rwM σ) (S : Nat) : bdA σ' S = bdA σ S := by
  unfold bdA; rw [bdS_of h]
end
theorem in20 {t : Nat} (ht : t < 20) : ¬ nI t < 0 ∧ ¬ 20 ≤ nI t := ⟨nI_pos (by omega), nI_ge (a := t) (b := 20) ht (by omega)⟩
theorem in6 {t : Nat} (ht : t < 6) : ¬ nI t < 0 ∧ ¬ 6 ≤ nI t := ⟨nI_pos (by omega), nI_ge (a := t) (b := 6) ht (by omega)⟩
theorem in8 {t : Nat} (ht : t < 8) : ¬ nI t < 0 ∧ ¬ 8 ≤ nI t := ⟨nI_pos (by omega), nI_ge (a := t) (b := 8) ht (by omega)⟩
theorem fIx_out {σ : Sto} {S : Nat} {x n : Int32} (hR : ∀ k, k < S → okR (rwM σ k)) (hx : x < 0 ∨ 20 ≤ x) : fIx (key x n) 0 (rws σ 0 S) = none := by
  cases hf : fIx (key x n) 0 (rws σ 0 S) with
  | none => rfl
  | some k =>
    obtain ⟨h1, h2⟩ := fIx_rws hf
    obtain ⟨t, ht, et⟩ := (hR k h1).1
    simp only [key, decide_eq_true_eq] at h2
    rw [← h2.1, et] at hx
    rcases hx with q | q
    · exact absurd q (in20 ht).1
    · exact absurd q (in20 ht).2
section
variable {N : Nat} {xs : Nat → Int32} {σ : Sto} {n d : Nat} {L : Nat → List Nat} {S : Nat} {D : List Rw} {ol : List Nat} {pth : Nat → List Int32}
theorem INV.v (h : INV N xs σ n L S D ol pth) : ∀ k, k < S → okV (rwM σ k) := fun k hk => (h.1.2.2.1 k hk).v
theorem INV.nd (h : INV N xs σ n L S D ol pth) {t : Nat} (ht : t < 20) : (L t).Nodup := (h.1.1.t ht).2.2.2.2.1
theorem INV.so (h : INV N xs σ n L S D ol pth) {t : Nat} (ht : t < 20) : SO σ (L t) := (h.1.2.2.2.2.2 t ht).1
theorem INV.le (h : INV N xs σ n L S D ol pth) {t : Nat} (ht : t < 20) : (L t).length < 2 ^ 31 := Nat.lt_of_le_of_lt (h.1.2.2.2.2.2 t ht).2 (by decide)
theorem INV.tc (h : INV N xs σ n L S D ol pth) {t : Nat} (ht : t < 20) : ∃ J, TC σ S t (L t) J := h.1.2.2.tc h.1.1 ht
theorem INV.bd (h : INV N xs σ n L S D ol pth) : bdA σ S = bdX σ L := an_bounds h.1.2.2 h.1.1
theorem op_spans (h : INV N xs σ n L S D ol pth) (hn : n < 64) (x : Int32) : CI (d + 40) 61 [aR (some 1), aI x] σ (fun a σ1 => CI (d + 40) 112 [aR (some 68), aI x] σ1 (fun b σ2 => a = b ∧ IV N xs σ2 (n + 1))) := by
  refine X_spans h.1.1 (fun c => ?_) (fun t ht e => ?_)
  · exact M_spans h.1.2.1 (fun _ => ⟨rfl, h.iv hn⟩) (fun c1 c2 => by rcases c with q | q; exact absurd q c1; exact absurd q c2)
  · subst e
    refine M_spans h.1.2.1 (fun c => ?_) (fun _ _ => ⟨?_, h.iv hn⟩)
    · rcases c with q | q
      · exact absurd q (in20 ht).1
      · exact absurd q (in20 ht).2
    · have := (h.1.2.2.2.2.1 t ht).length_eq
      rw [List.length_map] at this
      rw [← this, List.countP_eq_length_filter]
      rfl
theorem op_span (h : INV N xs σ n L S D ol pth) (hn : n < 64) (x m w : Int32) : CI (d + 40) 62 [aR (some 1), aI x, aI m, aI w] σ (fun a σ1 => CI (d + 40) 122 [aR (some 68), aI x, aI m, aI w] σ1 (fun b σ2 => a = b ∧ IV N xs σ2 (n + 1))) := by
  refine X_span h.1.1 (fun c => ?_) (fun t ht e σ1 hq hI1 => ?_)
  · refine M_span h.1.2.1 (fun v => ⟨?_, (h.m (MQs.d σ v)).iv hn⟩)
    rw [fIx_out h.1.2.2.1 c]
  · subst e
    have h1 := h.x hq hI1
    have er := hq.qq.m
    refine M_span h1.1.2.1 (fun v => ⟨?_, (h1.m (MQs.d σ1 v)).iv hn⟩)
    obtain ⟨J, hJ⟩ := h.tc ht
    rw [rws_of er, spA_of er]
    exact (an_span hJ m w).symm
theorem op_kid (h : INV N xs σ n L S D ol pth) (hn : n < 64) (x m i : Int32) : CI (d + 40) 63 [aR (some 1), aI x, aI m, aI i] σ (fun a σ1 => CI (d + 40) 123 [aR (some 68), aI x, aI m, aI i] σ1 (fun b σ2 => a = b ∧ IV N xs σ2 (n + 1))) := by
  refine X_kid h.1.1 (fun c => ?_) (fun t ht e σ1 hq hI1 => ?_)
  · refine M_kid h.1.2.1 (fun v => ⟨?_, (h.m (MQs.d σ v)).iv hn⟩)
    rw [fIx_out h.1.2.2.1 c]
  · subst e
    have h1 := h.x hq hI1
    have er := hq.qq.m
    refine M_kid h1.1.2.1 (fun v => ⟨?_, (h1.m (MQs.d σ1 v)).iv hn⟩)
    obtain ⟨J, hJ⟩ := h.tc ht
    rw [rws_of er, noA_of er, kaB_of er]
    exact (an_kid hJ (h.so ht) (h.le ht) m i).symm
theorem op_root (h : INV N xs σ n L S D ol pth) (hn : n < 64) (x i : Int32) : CI (d + 40) 64 [aR (some 1), aI x, aI i] σ (fun a σ1 => CI (d + 40) 124 [aR (some 68), aI x, aI i] σ1 (fun b σ2 => a = b ∧ IV N xs σ2 (n + 1))) := by
  refine X_root h.1.1 (fun c => ?_) (fun t ht e σ1 hq hI1 => ?_)
  · exact M_root h.1.2.1 (fun _ => ⟨rfl, h.iv hn⟩) (fun c1 c2 => by rcases c with q | q; exact absurd q c1; exact absurd q c2)
  · subst e
    have h1 := h.x hq hI1
    have er := hq.qq.m
    refine M_root h1.1.2.1 (fun c => ?_) (fun _ _ v => ⟨?_, (h1.m (MQs.d σ1 v)).iv hn⟩)
    · rcases c with q | q
      · exact absurd q (in20 ht).1
      · exact absurd q (in20 ht).2
    · obtain ⟨J, hJ⟩ := h.tc ht
      rw [noA_of er, raB_of er]
      exact (an_root hJ (h.so ht) (h.le ht) i).symm
theorem op_trace (h : INV N xs σ n L S D ol pth) (hn : n < 64) (x w : Int32) : CI (d + 40) 65 [aR (some 1), aI x, aI w] σ (fun a σ1 => CI (d + 40) 125 [aR (some 68), aI x, aI w] σ1 (fun b σ2 => a = b ∧ IV N xs σ2 (n + 1))) := by
  refine X_trace h.1.1 (fun c => ?_) (fun t ht e σ1 hq hI1 => ?_)
  · refine M_trace h.1.2.1 (fun _ => ⟨rfl, h.iv hn⟩) (fun j hj e _ => ?_) (fun c1 c2 => by rcases c with q | q; exact absurd q c1; exact absurd q c2)
    subst e
    rcases c with q | q
    · exact absurd q (in20 hj).1
    · exact absurd q (in20 hj).2
  · subst e
    have h1 := h.x hq hI1
    have er := hq.qq.m
    refine M_trace h1.1.2.1 (fun c => ⟨?_, h1.iv hn⟩) (fun j hj e ew => ⟨?_, h1.iv hn⟩) (fun _ _ hw v => ⟨?_, (h1.m (MQs.d σ1 v)).iv hn⟩)
    · have hw : w < 0 ∨ 4 < w := by
        rcases c with (q | q) | q
        · exact absurd q (in20 ht).1
        · exact absurd q (in20 ht).2
        · exact q
      unfold trX
      have nw : ∀ y : Int32, ¬ y < 0 → ¬ 4 < y → ¬ w = y := fun y y1 y2 q => by
        subst q
        rcases hw with q | q
        · exact y1 q
        · exact y2 q
      rw [if_neg (nw 0 (by decide) (by decide)), if_neg (nw 1 (by decide) (by decide)), if_neg (nw 2 (by decide) (by decide)), if_neg (nw 3 (by decide) (by decide)), if_neg (nw 4 (by decide) (by decide))]
    · have ej : t = j := (nI_eq (by omega) (by omega)).mp e
      subst ej ew
      have c1 := (h1.2.2.2.1.1 t ht).1
      rw [← c1]
      show gi σ (28 + 2 * t) 3 = gi σ1 (28 + 2 * t) 3
      exact (hq.qq.i (by omega) (by unfold sci; omega)).symm
    · obtain ⟨J, hJ⟩ := h.tc ht
      rw [trB_of er]
      exact (an_trace hJ (h.nd ht) hw).symm
theorem op_time (h : INV N xs σ n L S D ol pth) (hn : n < 64) (x m e w : Int32) : CL (d + 40) 66 [aR (some 1), aI x, aI m, aI e, aI w] σ (fun a σ1 => CL (d + 40) 142 [aR (some 68), aI x, aI m, aI e, aI w] σ1 (fun b σ2 => a = b ∧ IV N xs σ2 (n + 1))) := by
  refine X_time h.1.1 (fun c => ?_) (fun t ht ex σ1 hq hI1 => ?_)
  · refine M_time h.1.2.1 h.v ⟨?_, h.iv hn⟩
    rw [fIx_out h.1.2.2.1 c]
  · subst ex
    have h1 := h.x hq hI1
    have er := hq.qq.m
    refine M_time h1.1.2.1 h1.v ⟨?_, h1.iv hn⟩
    obtain ⟨J, hJ⟩ := h.tc ht
    have e86 : gl σ1 86 = gl σ 10 := by
      rw [h.2.2.1.1]
      exact hq.qq.2.2.2.1 86 (by unfold scl; omega)
    rw [rws_of er, er, e86]
    rcases hJ.f m with ⟨g1, g2⟩ | ⟨k, a, g1, g2, g3⟩
    · rw [g1, g2]
    · rw [g1, g2]
      simp only
      rw [g3.2.2]
      rfl
theorem op_bound (h : INV N xs σ n L S D ol pth) (hn : n < 64) (x y : Int32) : CL (d + 40) 67 [aR (some 1), aI x, aI y] σ (fun a σ1 => CL (d + 40) 131 [aR (some 68), aI x, aI y] σ1 (fun b σ2 => a = b ∧ IV N xs σ2 (n + 1))) := by
  have no : ∀ a b, a < 6 → b < 6 → x = nI a → y = nI b → ¬ ((x < 0 ∨ 6 ≤ x) ∨ (y < 0 ∨ 6 ≤ y)) := fun a b ha hb e1 e2 q => by
    subst e1 e2
    rcases q with (q | q) | (q | q)
    · exact (in6 ha).1 q
    · exact (in6 ha).2 q
    · exact (in6 hb).1 q
    · exact (in6 hb).2 q
  refine X_bound h.1.1 (fun c => ?_) (fun a b ha hb e1 e2 σ1 hq hI1 => ?_)
  · exact M_bound h.1.2.1 h.v (fun _ => ⟨rfl, h.iv hn⟩) (fun a b ha hb e1 e2 => absurd c (no a b ha hb e1 e2))
  · have h1 := h.x hq hI1
    refine M_bound h1.1.2.1 h1.v (fun c => absurd c (no a b ha hb e1 e2)) (fun a' b' ha' hb' e1' e2' σ2 hs => ⟨?_, (h1.m (MQs.c4 hs)).iv hn⟩)
    have ea : a = a' := (nI_eq (by omega) (by omega)).mp (e1.symm.trans e1')
    have eb : b = b' := (nI_eq (by omega) (by omega)).mp (e2.symm.trans e2')
    rw [← ea, ← eb, bdA_of hq.qq.m, h.bd]
theorem op_skew (h : INV N xs σ n L S D ol pth) (hn : n < 64) (x y w : Int32) : CL (d + 40) 68 [aR (some 1), aI x, aI y, aI w] σ (fun a σ1 => CL (d + 40) 132 [aR (some 68), aI x, aI y, aI w] σ1 (fun b σ2 => a = b ∧ IV N xs σ2 (n + 1))) := by
  have no : ∀ a b, a < 6 → b < 6 → x = nI a → y = nI b → ¬ x = y → ¬ w < 0 → ¬ 1 < w → ¬ ((x < 0 ∨ 6 ≤ x) ∨ (y < 0 ∨ 6 ≤ y) ∨ x = y ∨ w < 0 ∨ 1 < w) := fun a b ha hb e1 e2 e3 e4 e5 q => by
    rcases q with (q | q) | (q | q) | q | q | q
    · rw [e1] at q; exact (in6 ha).1 q
    · rw [e1] at q; exact (in6 ha).2 q
    · rw [e2] at q; exact (in6 hb).1 q
    · rw [e2] at q; exact (in6 hb).2 q
    · exact e3 q
    · exact e4 q
    · exact e5 q
  refine X_skew h.1.1 (fun c => ?_) (fun a b ha hb e1 e2 e3 e4 e5 σ1 hq hI1 => ?_)
  · exact M_skew h.1.2.1 h.v (fun _ => ⟨rfl, h.iv hn⟩) (fun a b ha hb e1 e2 e3 e4 e5 => absurd c (no a b ha hb e1 e2 e3 e4 e5))
  · have h1 := h.x hq hI1
    refine M_skew h1.1.2.1 h1.v (fun c => absurd c (no a b ha hb e1 e2 e3 e4 e5)) (fun a' b' ha' hb' e1' e2' _ _ _ σ2 hs => ⟨?_, (h1.m (MQs.c4 hs)).iv hn⟩)
    have ea : a = a' := (nI_eq (by omega) (by omega)).mp (e1.symm.trans e1')
    have eb : b = b' := (nI_eq (by omega) (by omega)).mp (e2.symm.trans e2')
    rw [← ea, ← eb, bdA_of hq.qq.m, h.bd]
theorem op_ring (h : INV N xs σ n L S D ol pth) (hn : n < 64) (x : Int32) : CI (d + 40) 69 [aR (some 1), aI x] σ (fun a σ1 => CI (d + 40) 134 [aR (some 68), aI x] σ1 (fun b σ2 => a = b ∧ IV N xs σ2 (n + 1))) := by
  refine X_ring h.1.1 (fun c σ1 hq hI1 => ?_) (fun i hi e σ1 hq hI1 => ?_)
  · have h1 := h.x hq hI1
    refine M_ring h1.1.2.1 h1.v (fun _ => ⟨rfl, h1.iv hn⟩) (fun c2 => absurd c c2) (fun i hi e => ?_)
    subst e
    exact absurd c (nI_pos hi)
  · subst e
    have h1 := h.x hq hI1
    have eb : bdA σ1 S = bdX σ L := by rw [bdA_of hq.qq.m, h.bd]
    refine M_ring h1.1.2.1 h1.v (fun c => absurd c (nI_pos hi)) (fun _ hA σ2 hs => ⟨?_, (h1.m (MQs.c4 hs)).iv hn⟩) (fun i' hi' e hA σ2 σ3 hs hg => ⟨?_, (h1.m ((MQs.c4 hs).trans (MQs.g hg))).iv hn⟩)
    · rw [eb] at hA
      rw [an_ring, if_pos hA]
    · have ei : i = i' := (nI_eq hi hi').mp e
      rw [eb] at hA ⊢
      rw [an_ring, hA, ← ei]
      rfl
theorem op_moved (h : INV N xs σ n L S D ol pth) (hn : n < 64) (x : Int32) : CL (d + 40) 71 [aR (some 1), aI x] σ (fun a σ1 => CL (d + 40) 136 [aR (some 68), aI x] σ1 (fun b σ2 => a = b ∧ IV N xs σ2 (n + 1))) := by
  refine X_moved h.1.1.xb (fun c => ?_) (fun a ha e => ?_)
  · refine M_moved h.1.2.1 (fun _ => ⟨rfl, h.iv hn⟩) (fun a ha e => ?_)
    subst e
    rcases c with q | q
    · exact absurd q (in6 ha).1
    · exact absurd q (in6 ha).2
  · subst e
    refine M_moved h.1.2.1 (fun c => ?_) (fun b hb e => ⟨?_, h.iv hn⟩)
    · rcases c with q | q
      · exact absurd q (in6 ha).1
      · exact absurd q (in6 ha).2
    · have eb : a = b := (nI_eq (by omega) (by omega)).mp e
      rw [h.2.2.1.1, eb]
theorem op_stands (h : INV N xs σ n L S D ol pth) (hn : n < 64) (x : Int32) : CI (d + 40) 81 [aR (some 1), aI x] σ (fun a σ1 => CI (d + 40) 154 [aR (some 68), aI x] σ1 (fun b σ2 => a = b ∧ IV N xs σ2 (n + 1))) := by
  refine X_stands h.1.1.xb (fun c => ?_) (fun a ha e => ?_)
  · refine M_stands h.1.2.1 (fun _ => ⟨rfl, h.iv hn⟩) (fun a ha e => ?_)
    subst e
    rcases c with q | q
    · exact absurd q (in20 ha).1
    · exact absurd q (in20 ha).2
  · subst e
    refine M_stands h.1.2.1 (fun c => ?_) (fun b hb e => ⟨?_, h.iv hn⟩)
    · rcases c with q | q
      · exact absurd q (in20 ha).1
      · exact absurd q (in20 ha).2
    · have eb : a = b := (nI_eq (by omega) (by omega)).mp e
      obtain ⟨c1, -, c3⟩ := h.2.2.2.1.1 a ha
      rw [c1, c3, eb]
theorem op_flow (h : INV N xs σ n L S D ol pth) (hn : n < 64) (x y w : Int32) : CI (d + 40) 85 [aR (some 1), aI x, aI y, aI w] σ (fun a σ1 => CI (d + 40) 161 [aR (some 68), aI x, aI y, aI w] σ1 (fun b σ2 => a = b ∧ IV N xs σ2 (n + 1))) := by
  have no : ¬ x < 0 → ¬ 6 ≤ x → ¬ y < 0 → ¬ 6 ≤ y → (w = 0 ∨ w = 1 ∨ w = 2) → ¬ ((x < 0 ∨ 6 ≤ x) ∨ (y < 0 ∨ 6 ≤ y) ∨ w < 0 ∨ 2 < w) := fun e1 e2 e3 e4 e5 q => by
    rcases q with (q | q) | (q | q) | q | q
    · exact e1 q
    · exact e2 q
    · exact e3 q
    · exact e4 q
    · rcases e5 with rfl | rfl | rfl <;> exact absurd q (by decide)
    · rcases e5 with rfl | rfl | rfl <;> exact absurd q (by decide)
  refine X_flow h.1.1 (fun c => ?_) (fun e1 e2 e3 e4 e5 => ?_)
  · exact M_flow h.1.2.1 (fun _ => ⟨rfl, h.iv hn⟩) (fun e1 e2 e3 e4 e5 => absurd c (no e1 e2 e3 e4 e5))
  · refine M_flow h.1.2.1 (fun c => absurd c (no e1 e2 e3 e4 e5)) (fun _ _ _ _ _ => ⟨?_, h.iv hn⟩)
    rw [an_flow h.1.2.2 h.1.1 e5]
end
