/-! both: ways, kept, totals, counters -/
theorem wkM_of' {σ σ' : Sto} (h : rwM σ' = rwM σ) (h2 : gl σ' 86 = gl σ 86) (S : Nat) : wkM σ' S = wkM σ S := by
  funext n r
  unfold wkM
  rw [nxM_of h h2, h, h2]
theorem ktL_at {st : Nat → Int32} : ∀ (l : List Nat) (i : Nat), ktL st l i = match (l.filter (fun t => decide (st t = 1)))[i]? with
    | none => -1
    | some t => nI t
  | [], i => rfl
  | t :: l, i => by
    rw [ktL]
    by_cases h : st t = 1
    · rw [if_pos h, List.filter_cons_of_pos (by simpa using h)]
      cases i with
      | zero => rfl
      | succ i =>
        rw [if_neg (by omega), show i + 1 - 1 = i by omega, ktL_at l i, List.getElem?_cons_succ]
    · rw [if_neg h, List.filter_cons_of_neg (by simpa using h), ktL_at l i]
theorem ps_iff {r : Rw} (hr : okR r) {s a j : Nat} (hs : s < 6) (ha : a < 8) : psB s a j r = decide (gfI r = 8 * s + a ∧ stp r = j) := by
  obtain ⟨v, hv, ev⟩ := hr.2.2.2.1
  obtain ⟨c, hc, ec⟩ := hr.2.2.2.2.1
  unfold psB gfI
  rw [ev, ec, nI_clamp (show v < 2 ^ 31 by omega), nI_clamp (show c < 2 ^ 31 by omega), decide_eq_decide, nI_eq (by omega) (by omega), nI_eq (by omega) (by omega)]
  exact ⟨fun q => ⟨by omega, q.2.2⟩, fun q => ⟨by omega, by omega, q.2⟩⟩
theorem pf_iff {r : Rw} (hr : okR r) {s a : Nat} (hs : s < 6) (ha : a < 8) : pfB s a r = decide (gfI r = 8 * s + a ∧ rF r = 1) := by
  obtain ⟨v, hv, ev⟩ := hr.2.2.2.1
  obtain ⟨c, hc, ec⟩ := hr.2.2.2.2.1
  unfold pfB gfI
  rw [ev, ec, nI_clamp (show v < 2 ^ 31 by omega), nI_clamp (show c < 2 ^ 31 by omega), decide_eq_decide, nI_eq (by omega) (by omega), nI_eq (by omega) (by omega)]
  exact ⟨fun q => ⟨by omega, q.2.2⟩, fun q => ⟨by omega, by omega, q.2⟩⟩
theorem iSt_eq {R D : List Rw} (hR : ∀ r, r ∈ R → okR r) {s a j : Nat} (hs : s < 6) (ha : a < 8) (hj : j ≤ 30) : iSt R (gnL (fun _ => 0) D) s a j = (D ++ R).countP (fun r => decide (gfI r = 8 * s + a ∧ stp r = j)) := by
  unfold iSt gnL
  rw [List.countP_append, Nat.zero_add]
  congr 1
  · refine cP_congr (fun r _ => ?_)
    unfold gnI
    have := stp_le r
    rw [decide_eq_decide]
    omega
  · exact cP_congr (fun r hr => ps_iff (hR r hr) hs ha)
theorem gf_eq {R D : List Rw} (hR : ∀ r, r ∈ R → okR r) {s a : Nat} (hs : s < 6) (ha : a < 8) : gfL (fun _ => 0) D (8 * s + a) + R.countP (pfB s a) = (D ++ R).countP (fun r => decide (gfI r = 8 * s + a ∧ rF r = 1)) := by
  unfold gfL
  rw [List.countP_append, Nat.zero_add]
  congr 1
  exact cP_congr (fun r hr => pf_iff (hR r hr) hs ha)
theorem sm_add (f g : Nat → Nat) : ∀ (n k : Nat), sm (fun j => f j + g j) k n = sm f k n + sm g k n
  | 0, _ => rfl
  | n + 1, k => by rw [sm, sm, sm, sm_add f g n (k + 1)]; omega
theorem sm_zero : ∀ (n k : Nat), sm (fun _ => 0) k n = 0
  | 0, _ => rfl
  | n + 1, k => by rw [sm, sm_zero n (k + 1)]
theorem sm_one (i : Nat) : ∀ (n k : Nat), sm (fun j => if i = j then 1 else 0) k n = if k ≤ i ∧ i < k + n then 1 else 0
  | 0, k => by rw [sm, if_neg (by omega)]
  | n + 1, k => by
    rw [sm, sm_one i n (k + 1)]
    by_cases h : i = k
    · rw [if_pos h, if_neg (by omega), if_pos (by omega)]
    · rw [if_neg h]
      by_cases g : k + 1 ≤ i ∧ i < k + 1 + n
      · rw [if_pos g, if_pos (by omega)]
      · rw [if_neg g, if_neg (by omega)]
theorem sm_part (q : Rw → Prop) [DecidablePred q] (m : Nat) : ∀ (l : List Rw), sm (fun j => l.countP (fun r => decide (q r ∧ stp r = j))) 0 m = l.countP (fun r => decide (q r ∧ stp r < m))
  | [] => by simp only [List.countP_nil]; exact sm_zero m 0
  | r :: l => by
    have e : (fun j => (r :: l).countP (fun r => decide (q r ∧ stp r = j))) = (fun j => l.countP (fun r => decide (q r ∧ stp r = j)) + (if q r then (if stp r = j then 1 else 0) else 0)) := by
      funext j
      rw [List.countP_cons]
      by_cases h1 : q r <;> by_cases h2 : stp r = j <;> simp [h1, h2]
    rw [e, sm_add, sm_part q m l, List.countP_cons]
    congr 1
    by_cases h1 : q r
    · simp only [h1, if_true, true_and, decide_eq_true_eq]
      rw [sm_one]
      simp
    · simp only [h1, if_false, false_and, decide_false, Bool.false_eq_true]
      exact sm_zero m 0
theorem alN_eq {R D : List Rw} (hR : ∀ r, r ∈ R → okR r) {s a : Nat} (hs : s < 6) (ha : a < 8) : alN R (gnL (fun _ => 0) D) s a = (D ++ R).countP (fun r => decide (gfI r = 8 * s + a)) := by
  unfold alN
  rw [sm_congr 31 0 (g := fun j => (D ++ R).countP (fun r => decide (gfI r = 8 * s + a ∧ stp r = j))) (fun j _ hj => iSt_eq hR hs ha (by omega)), sm_part (fun r => gfI r = 8 * s + a)]
  refine cP_congr (fun r _ => ?_)
  have := stp_le r
  rw [decide_eq_decide]
  exact ⟨fun q => q.1, fun q => ⟨q, by omega⟩⟩
section
variable {N : Nat} {xs : Nat → Int32} {σ : Sto} {n d : Nat} {L : Nat → List Nat} {S : Nat} {D : List Rw} {ol : List Nat} {pth : Nat → List Int32}
theorem INV.rm (h : INV N xs σ n L S D ol pth) : ∀ r, r ∈ rws σ 0 S → okR r := fun r hr => by
  obtain ⟨k, hk, e⟩ := rws_mem.mp hr
  rw [← e]
  exact h.1.2.2.1 k hk
theorem INV.wk (h : INV N xs σ n L S D ol pth) : WK σ L := fun t ht a ha => by
  obtain ⟨J, hJ⟩ := h.tc ht
  exact wk_root (u := uX σ (L t)) (nxX_kid (h.1.1.g ht) hJ.2.1 (h.1.1.re ht) h.2.2.1.2.1) (h.1.2.2.2.2.2 t ht).2 ha _ _
theorem len_of {F G : Nat → Rw} {lm lw : List (Nat × Int64 × Int64)} (e : lm.map (fun q => (F q.1, q.2)) = lw.map (fun q => (G q.1, q.2))) : lm.length = lw.length := by
  have := congrArg List.length e
  simpa using this
theorem INV.wm (h : INV N xs σ n L S D ol pth) : ∀ r, r < S → ∃ l, wkM σ S 30 r = some l ∧ l.length ≤ 400 := fun r hr => by
  obtain ⟨t, ht, et⟩ := (h.1.2.2.1 r hr).1
  obtain ⟨J, hJ⟩ := h.tc ht
  obtain ⟨a, ha⟩ := hJ.ofM ((hJ.1.2.1 r).mpr ⟨hr, et⟩)
  obtain ⟨lw, h1, h2⟩ := h.wk t ht a ha.2.1
  rw [h.2.2.1.1] at h1
  obtain ⟨lm, g1, g2, -⟩ := hJ.wk (h.nd ht) ha h1
  exact ⟨lm, g1, by rw [len_of g2]; omega⟩
theorem op_share (h : INV N xs σ n L S D ol pth) (hn : n < 64) (x m : Int32) : CL (d + 40) 76 [aR (some 1), aI x, aI m] σ (fun a σ1 => CL (d + 40) 148 [aR (some 68), aI x, aI m] σ1 (fun b σ2 => a = b ∧ IV N xs σ2 (n + 1))) := by
  have hMm : ∀ σ1, INV N xs σ1 n L S D ol pth → mvB (gl σ1 86) := fun σ1 h1 => by rw [← h1.2.2.1.1]; exact h1.2.2.1.2.1
  refine X_share h.1.1 h.2.2.1.2.1 h.wk (fun c => ?_) (fun t ht e => ⟨fun hf σ1 hq hI1 => ?_, fun a hf ha => ⟨fun hr σ1 hq hI1 => ?_, fun r lw hr hrm hw1 hw2 σ1 hq hI1 => ?_⟩⟩)
  · refine M_share (n := 30) h.1.2.1 h.1.2.2.1 (hMm σ h) (by omega) h.wm (fun _ => ⟨rfl, h.iv hn⟩) (fun k hk hf => ?_)
    rw [fIx_out h.1.2.2.1 c] at hf
    cases hf
  · subst e
    have h1 := h.x hq hI1
    have er := hq.qq.m
    obtain ⟨J, hJ⟩ := h.tc ht
    refine M_share (n := 30) h1.1.2.1 h1.1.2.2.1 (hMm σ1 h1) (by omega) h1.wm (fun _ => ⟨rfl, h1.iv hn⟩) (fun k hk hg => ?_)
    rw [rws_of er] at hg
    rcases hJ.f m with ⟨g1, g2⟩ | ⟨k', a', g1, g2, g3⟩
    · rw [g1] at hg; cases hg
    · rw [hf] at g2; cases g2
  · subst e
    have h1 := h.x hq hI1
    have er := hq.qq.m
    obtain ⟨J, hJ⟩ := h.tc ht
    refine M_share (n := 30) h1.1.2.1 h1.1.2.2.1 (hMm σ1 h1) (by omega) h1.wm (fun _ => ⟨rfl, h1.iv hn⟩) (fun k hk hg => ⟨fun _ v => ⟨rfl, (h1.m (MQs.d σ1 v)).iv hn⟩, fun r l hr2 => ?_⟩)
    rw [rws_of er] at hg
    rw [uM_of er] at hr2
    rcases hJ.f m with ⟨g1, g2⟩ | ⟨k', a', g1, g2, g3⟩
    · rw [g1] at hg; cases hg
    · rw [hf] at g2; cases g2
      rw [g1] at hg; cases hg
      rw [(hJ.ron g3).mpr hr] at hr2; cases hr2
  · subst e
    have h1 := h.x hq hI1
    have er := hq.qq.m
    obtain ⟨J, hJ⟩ := h.tc ht
    have e86 : gl σ1 86 = gl σ 86 := hq.qq.2.2.2.1 86 (by unfold scl; omega)
    rcases hJ.f m with ⟨g1, g2⟩ | ⟨k', a', g1, g2, g3⟩
    · rw [hf] at g2; cases g2
    · rw [hf] at g2; cases g2
      rcases hJ.ro g3 with ⟨q1, q2⟩ | ⟨kr, ar, q1, q2, q3⟩
      · rw [hr] at q2; cases q2
      · rw [hr] at q2; cases q2
        refine M_share (n := 30) h1.1.2.1 h1.1.2.2.1 (hMm σ1 h1) (by omega) h1.wm (fun hg => ?_) (fun k hk hg => ⟨fun hr2 => ?_, fun r2 l hr2 hr3 hl σ2 hs => ⟨?_, (h1.m (MQs.w hs)).iv hn⟩⟩)
        · rw [rws_of er, g1] at hg; cases hg
        · rw [rws_of er, g1] at hg; cases hg
          rw [uM_of er, q1] at hr2; cases hr2
        · rw [rws_of er, g1] at hg; cases hg
          rw [uM_of er, q1] at hr2; cases hr2
          rw [wkM_of' er e86] at hl
          rw [h.2.2.1.1] at hw1
          obtain ⟨lm, w1, w2, w3⟩ := hJ.wk (h.nd ht) q3 hw1
          rw [hl] at w1; cases w1
          rw [an_share hJ (h.nd ht) g3 l lw 0 w2 w3, hJ.fn hf]
theorem op_kept (h : INV N xs σ n L S D ol pth) (hn : n < 64) (x : Int32) : CI (d + 40) 80 [aR (some 1), aI x] σ (fun a σ1 => CI (d + 40) 153 [aR (some 68), aI x] σ1 (fun b σ2 => a = b ∧ IV N xs σ2 (n + 1))) := by
  obtain ⟨c1, c2, c3, c4, c5, c6, c7, c8, c9, c10, c11⟩ := h.2.2.2.1
  have lo : ol.length ≤ 20 := by
    have hs : ol ⊆ List.range 20 := fun t ht => List.mem_range.mpr (OD_mem ol 0 c5 t ht)
    have := List.Nodup.length_le_of_subset c4 hs
    simpa using this
  have lk : (klO σ ol).length ≤ 20 := Nat.le_trans (List.length_filter_le _ _) lo
  have ma : ∀ i, i < 2 ^ 31 → x = nI i → ∀ v : Int32, (match (klO σ ol)[i]? with
      | none => (-1 : Int32)
      | some t => nI t) = v → CI (d + 40) 153 [aR (some 68), aI x] σ (fun b σ2 => v = b ∧ IV N xs σ2 (n + 1)) := fun i hi e v hv => by
    subst e
    refine M_kept h.1.2.1 c6 lo rfl c5 (fun c => absurd c (nI_pos hi)) (fun i' hi' e => ⟨?_, h.iv hn⟩)
    have ei : i = i' := (nI_eq hi hi').mp e
    rw [ktL_at, ← ei, ← hv]
    rfl
  refine X_kept h.1.1.xb c9 lk (fun c => ?_) (fun i hi hni e => ma i hi e _ ?_) (fun i hi e => ma i (by omega) e _ ?_)
  · refine M_kept h.1.2.1 c6 lo rfl c5 (fun _ => ⟨rfl, h.iv hn⟩) (fun i hi e => ?_)
    subst e
    exact absurd c (nI_pos hi)
  · rw [List.getElem?_eq_none hni]
  · rw [List.getElem?_eq_getElem hi]
    exact ((c8 i _ (List.getElem?_eq_getElem hi)).2).symm
theorem op_total (h : INV N xs σ n L S D ol pth) (hn : n < 64) (x y w : Int32) : CI (d + 40) 83 [aR (some 1), aI x, aI y, aI w] σ (fun a σ1 => CI (d + 40) 159 [aR (some 68), aI x, aI y, aI w] σ1 (fun b σ2 => a = b ∧ IV N xs σ2 (n + 1))) := by
  obtain ⟨t1, t2, t3, t4, t5, t6⟩ := h.2.1
  have nx : ∀ s a, s < 6 → a < 8 → x = nI s → y = nI a → ¬ (x < 0 ∨ 6 ≤ x) ∧ ¬ (y < 0 ∨ 8 ≤ y) := fun s a hs ha e1 e2 => by
    subst e1 e2
    exact ⟨fun q => by rcases q with q | q; exact (in6 hs).1 q; exact (in6 hs).2 q, fun q => by rcases q with q | q; exact (in8 ha).1 q; exact (in8 ha).2 q⟩
  have nw : ∀ j, j ≤ 30 → w = nI j → ¬ (w < -2 ∨ 30 < w) := fun j hj e q => by
    subst e
    rcases q with q | q
    · exact nI_pos (show j < 2 ^ 31 by omega) (Int32.lt_trans q (by decide))
    · exact absurd q (nI_nlt (a := 30) (b := j) (by omega) (by omega))
  have two : ∀ s s' a a', s < 6 → s' < 6 → a < 8 → a' < 8 → x = nI s → x = nI s' → y = nI a → y = nI a' → s = s' ∧ a = a' := fun s s' a a' h1 h2 h3 h4 e1 e2 e3 e4 => ⟨(nI_eq (by omega) (by omega)).mp (e1.symm.trans e2), (nI_eq (by omega) (by omega)).mp (e3.symm.trans e4)⟩
  refine X_total h.1.1.xb (fun c => ?_) (fun s a hs ha e1 e2 => ⟨fun j hj ew => ?_, fun ew => ?_, fun ew => ?_⟩)
  · refine M_total h.1.2.1 h.1.2.2.1 t2 t3 (fun _ => ⟨rfl, h.iv hn⟩) (fun s a hs ha e1 e2 => ⟨fun j hj ew => ?_, fun ew => ?_, fun ew => ?_⟩)
    · rcases c with q | q | q
      · exact absurd q (nx s a hs ha e1 e2).1
      · exact absurd q (nx s a hs ha e1 e2).2
      · exact absurd q (nw j hj ew)
    · rcases c with q | q | q
      · exact absurd q (nx s a hs ha e1 e2).1
      · exact absurd q (nx s a hs ha e1 e2).2
      · rw [ew] at q; exact absurd q (by decide)
    · rcases c with q | q | q
      · exact absurd q (nx s a hs ha e1 e2).1
      · exact absurd q (nx s a hs ha e1 e2).2
      · rw [ew] at q; exact absurd q (by decide)
  · refine M_total h.1.2.1 h.1.2.2.1 t2 t3 (fun c => ?_) (fun s' a' hs' ha' e1' e2' => ⟨fun j' hj' ew' => ⟨?_, h.iv hn⟩, fun ew' => ?_, fun ew' => ?_⟩)
    · rcases c with q | q | q
      · exact absurd q (nx s a hs ha e1 e2).1
      · exact absurd q (nx s a hs ha e1 e2).2
      · exact absurd q (nw j hj ew)
    · obtain ⟨u1, u2⟩ := two s s' a a' hs hs' ha ha' e1 e1' e2 e2'
      have uj : j = j' := (nI_eq (by omega) (by omega)).mp (ew.symm.trans ew')
      rw [← u1, ← u2, ← uj, t6 _ j (by omega) hj, iSt_eq h.rm hs ha hj]
    · rw [ew] at ew'; exact absurd (nI_pos' (show j < 2 ^ 31 by omega)) (by rw [ew']; decide)
    · rw [ew] at ew'; exact absurd (nI_pos' (show j < 2 ^ 31 by omega)) (by rw [ew']; decide)
  · refine M_total h.1.2.1 h.1.2.2.1 t2 t3 (fun c => ?_) (fun s' a' hs' ha' e1' e2' => ⟨fun j' hj' ew' => ?_, fun ew' => ⟨?_, h.iv hn⟩, fun ew' => ?_⟩)
    · rcases c with q | q | q
      · exact absurd q (nx s a hs ha e1 e2).1
      · exact absurd q (nx s a hs ha e1 e2).2
      · rw [ew] at q; exact absurd q (by decide)
    · rw [ew'] at ew; exact absurd (nI_pos' (show j' < 2 ^ 31 by omega)) (by rw [ew]; decide)
    · obtain ⟨u1, u2⟩ := two s s' a a' hs hs' ha ha' e1 e1' e2 e2'
      rw [← u1, ← u2, t4 _ (by omega), alN_eq h.rm hs ha]
    · rw [ew] at ew'; exact absurd ew' (by decide)
  · refine M_total h.1.2.1 h.1.2.2.1 t2 t3 (fun c => ?_) (fun s' a' hs' ha' e1' e2' => ⟨fun j' hj' ew' => ?_, fun ew' => ?_, fun ew' => ⟨?_, h.iv hn⟩⟩)
    · rcases c with q | q | q
      · exact absurd q (nx s a hs ha e1 e2).1
      · exact absurd q (nx s a hs ha e1 e2).2
      · rw [ew] at q; exact absurd q (by decide)
    · rw [ew'] at ew; exact absurd (nI_pos' (show j' < 2 ^ 31 by omega)) (by rw [ew]; decide)
    · rw [ew] at ew'; exact absurd ew' (by decide)
    · obtain ⟨u1, u2⟩ := two s s' a a' hs hs' ha ha' e1 e1' e2 e2'
      rw [← u1, ← u2, t5 _ (by omega), gf_eq h.rm hs ha]
theorem op_percent (h : INV N xs σ n L S D ol pth) (hn : n < 64) (x y w : Int32) : CI (d + 40) 84 [aR (some 1), aI x, aI y, aI w] σ (fun a σ1 => CI (d + 40) 160 [aR (some 68), aI x, aI y, aI w] σ1 (fun b σ2 => a = b ∧ IV N xs σ2 (n + 1))) := by
  obtain ⟨t1, t2, t3, t4, t5, t6⟩ := h.2.1
  have hlen : (D ++ rws σ 0 S).length ≤ 64 := by
    rw [List.length_append, rws_len]
    have := h.2.2.2.2.2.2.2
    omega
  have big : ∀ p : Rw → Bool, (D ++ rws σ 0 S).countP p < 100000 := fun p => by
    have := List.countP_le_length (p := p) (l := D ++ rws σ 0 S)
    omega
  have hA : ∀ s a, alN (rws σ 0 S) (gnL (fun _ => 0) D) s a < 100000 := fun s a => by
    have e1 : ∀ j, iSt (rws σ 0 S) (gnL (fun _ => 0) D) s a j ≤ 64 := fun j => by
      show 0 + D.countP (fun r => decide (gnI r = 32 * (8 * s + a) + j)) + (rws σ 0 S).countP (psB s a j) ≤ 64
      have a1 := List.countP_le_length (p := fun r => decide (gnI r = 32 * (8 * s + a) + j)) (l := D)
      have a2 := List.countP_le_length (p := psB s a j) (l := rws σ 0 S)
      rw [List.length_append] at hlen
      omega
    have e2 : ∀ m k, sm (iSt (rws σ 0 S) (gnL (fun _ => 0) D) s a) k m ≤ 64 * m := by
      intro m
      induction m with
      | zero => intro k; exact Nat.le_refl _
      | succ m ih => intro k; rw [sm]; have := e1 k; have := ih (k + 1); omega
    unfold alN
    have := e2 31 0
    omega
  have nx : ∀ s a, s < 6 → a < 8 → x = nI s → y = nI a → ¬ ((x < 0 ∨ 6 ≤ x) ∨ (y < 0 ∨ 8 ≤ y)) := fun s a hs ha e1 e2 q => by
    subst e1 e2
    rcases q with (q | q) | (q | q)
    · exact (in6 hs).1 q
    · exact (in6 hs).2 q
    · exact (in8 ha).1 q
    · exact (in8 ha).2 q
  have two : ∀ s s' a a', s < 6 → s' < 6 → a < 8 → a' < 8 → x = nI s → x = nI s' → y = nI a → y = nI a' → s = s' ∧ a = a' := fun s s' a a' h1 h2 h3 h4 e1 e2 e3 e4 => ⟨(nI_eq (by omega) (by omega)).mp (e1.symm.trans e2), (nI_eq (by omega) (by omega)).mp (e3.symm.trans e4)⟩
  refine X_percent h.1.1.xb (f := fun p j => (D ++ rws σ 0 S).countP (fun r => decide (gfI r = p ∧ stp r = j))) (m := fun p => (D ++ rws σ 0 S).countP (fun r => decide (gfI r = p))) (fun p j hp hj => t6 p j hp hj) (fun p hp => t4 p hp) (fun p => big _) (fun p j hp hj => ?_) (fun c => ?_) (fun s a hs ha e1 e2 => ⟨fun hz => ?_, fun hz => ⟨fun hw => ?_, fun p hp1 hp2 hw => ?_⟩⟩)
  · rw [sm_part (fun r => gfI r = p)]
    refine List.countP_mono_left (fun r _ q => ?_)
    simp only [decide_eq_true_eq] at q ⊢
    exact q.1
  · exact M_percent h.1.2.1 h.1.2.2.1 t2 hA (fun _ => ⟨rfl, h.iv hn⟩) (fun s a hs ha e1 e2 => absurd c (nx s a hs ha e1 e2))
  · refine M_percent h.1.2.1 h.1.2.2.1 t2 hA (fun c => absurd c (nx s a hs ha e1 e2)) (fun s' a' hs' ha' e1' e2' => ⟨fun _ => ⟨rfl, h.iv hn⟩, fun q => ?_⟩)
    obtain ⟨u1, u2⟩ := two s s' a a' hs hs' ha ha' e1 e1' e2 e2'
    rw [← u1, ← u2, alN_eq h.rm hs ha] at q
    exact absurd hz q
  · refine M_percent h.1.2.1 h.1.2.2.1 t2 hA (fun c => absurd c (nx s a hs ha e1 e2)) (fun s' a' hs' ha' e1' e2' => ⟨fun q => ?_, fun q => ⟨fun _ => ⟨rfl, h.iv hn⟩, fun p hp1 hp2 e => ?_⟩⟩)
    · obtain ⟨u1, u2⟩ := two s s' a a' hs hs' ha ha' e1 e1' e2 e2'
      rw [← u1, ← u2, alN_eq h.rm hs ha] at q
      exact absurd q hz
    · subst e
      rcases hw with g | g
      · exact absurd g (nI_nlt (a := p) (b := 1) hp1 (by omega))
      · exact absurd g (nI_nlt (a := 100) (b := p) hp2 (by omega))
  · refine M_percent h.1.2.1 h.1.2.2.1 t2 hA (fun c => absurd c (nx s a hs ha e1 e2)) (fun s' a' hs' ha' e1' e2' => ⟨fun q => ?_, fun q => ⟨fun g => ?_, fun p' hp1' hp2' e => ⟨?_, h.iv hn⟩⟩⟩)
    · obtain ⟨u1, u2⟩ := two s s' a a' hs hs' ha ha' e1 e1' e2 e2'
      rw [← u1, ← u2, alN_eq h.rm hs ha] at q
      exact absurd q hz
    · subst hw
      rcases g with g | g
      · exact absurd g (nI_nlt (a := p) (b := 1) hp1 (by omega))
      · exact absurd g (nI_nlt (a := 100) (b := p) hp2 (by omega))
    · obtain ⟨u1, u2⟩ := two s s' a a' hs hs' ha ha' e1 e1' e2 e2'
      have up : p = p' := (nI_eq (by omega) (by omega)).mp (hw.symm.trans e)
      rw [← u1, ← u2, ← up, alN_eq h.rm hs ha, iSt_eq h.rm hs ha (by omega)]
      congr 1
      have pc : ∀ (f g : Nat → Nat) (m : Nat), (∀ j, j ≤ 30 → f j = g j) → ∀ (k j v : Nat), j + k = 30 → pcF f p m k j v = pcF g p m k j v := by
        intro f g m hfg k
        induction k with
        | zero => intro j v _; rfl
        | succ k ih => intro j v hj; rw [pcF, pcF, hfg (j + 1) (by omega), ih (j + 1) _ (by omega)]
      exact pc _ _ _ (fun j hj => (iSt_eq h.rm hs ha hj).symm) 30 0 _ (by omega)
end
