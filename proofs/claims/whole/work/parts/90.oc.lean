/-! both: counters, what is tried, put, slow, quota, way -/
def kc (a k : Nat) : Prop := a = 0 ∨ (a = 1 ∧ k ≠ 8) ∨ a = 4 ∨ a = 5 ∨ a = 6 ∨ a = 27 ∨ (28 ≤ a ∧ a < 68 ∧ ¬ (a % 2 = 0 ∧ k ≤ 2)) ∨ (a = 68 ∧ (k = 42 ∨ (13 ≤ k ∧ k ≤ 17))) ∨ (69 ≤ a ∧ a ≤ 75) ∨ a = 78 ∨ a = 79 ∨ a = 80 ∨ a = 98 ∨ a = 99 ∨ a = 100 ∨ a = 101 ∨ a = 102 ∨ (103 ≤ a ∧ k ≤ 5)
section
variable {N : Nat} {xs : Nat → Int32} {σ σ' : Sto} {n d : Nat} {L : Nat → List Nat} {S : Nat} {D : List Rw} {ol : List Nat} {pth : Nat → List Int32}
theorem INV.fr (h : INV N xs σ n L S D ol pth) (hI : XI σ' L) (hM : MB σ' S) (hi : ∀ a k, kc a k → gi σ' a k = gi σ a k) (hl : ∀ a, a = 76 ∨ a = 77 ∨ 103 ≤ a → gl σ' a = gl σ a) (hr : gr σ' 0 0 = gr σ 0 0) (hC : CKs σ') (hT : TW σ') : INV N xs σ' n L S D ol pth := by
  obtain ⟨⟨i1, i2, i3⟩, i4, i5, i6, i7, i8, i9, i10⟩ := h
  have f : ∀ a, (∀ k, kc a k) → gi σ' a = gi σ a := fun a h2 => funext fun k => hi a k (h2 k)
  have em : rwM σ' = rwM σ := by
    funext k
    unfold rwM
    rw [f 69 (fun k => by unfold kc; omega), f 70 (fun k => by unfold kc; omega), f 71 (fun k => by unfold kc; omega), f 72 (fun k => by unfold kc; omega), f 73 (fun k => by unfold kc; omega), f 74 (fun k => by unfold kc; omega), f 75 (fun k => by unfold kc; omega), hl 76 (by omega), hl 77 (by omega)]
  have ex : ∀ t a, 103 ≤ a → rwX σ' t a = rwX σ t a := fun t a ha => by
    unfold rwX
    rw [hi a 0 (by unfold kc; omega), hi a 1 (by unfold kc; omega), hi a 2 (by unfold kc; omega), hi a 3 (by unfold kc; omega), hi a 4 (by unfold kc; omega), hi a 5 (by unfold kc; omega), hl a (by omega)]
  exact ⟨⟨hI, hM, RO_of em ex (fun t ht => i1.g ht) i3⟩, TTs_of em (fun a k ha => hi a k (by unfold kc; omega)) i4, hC, CS_of (fun t k ht hk => hi _ k (by unfold kc; omega)) (fun t ht => f _ (fun k => by unfold kc; omega)) (fun a ha => f a (fun k => by unfold kc; omega)) (hi 68 42 (by unfold kc; omega)) (hi 1 15 (by unfold kc; omega)) (hi 1 7 (by unfold kc; omega)) i6, CT_of (fun k h1 h2 => hi 1 k (by unfold kc; omega)) (fun k h1 h2 => hi 68 k (by unfold kc; omega)) i7, hT, SC_of hr (f 0 (fun k => by unfold kc; omega)) i9, i10⟩
theorem INV.ln (h : INV N xs σ n L S D ol pth) : ol.length ≤ 20 ∧ (klO σ ol).length = cnt (fun t => decide (gi σ 78 t = 1)) 0 20 := by
  obtain ⟨c1, c2, c3, c4, c5, c6, c7, c8, c9, c10, c11⟩ := h.2.2.2.1
  have hm := OD_mem ol 0 c5
  refine ⟨?_, ?_⟩
  · have := List.Nodup.length_le_of_subset c4 (fun t ht => List.mem_range.mpr (hm t ht))
    simpa using this
  · rw [cnt_range, ← List.range_eq_range', List.countP_eq_length_filter]
    refine List.Perm.length_eq ((List.perm_ext_iff_of_nodup (c4.sublist List.filter_sublist) (List.nodup_range.sublist List.filter_sublist)).mpr (fun t => ?_))
    rw [List.mem_filter, List.mem_filter, List.mem_range]
    constructor
    · exact fun q => ⟨hm t q.1, q.2⟩
    · rintro ⟨q1, q2⟩
      refine ⟨?_, q2⟩
      rw [decide_eq_true_eq] at q2
      rcases c2 t q1 with g | g | g
      · rw [g.1] at q2; exact absurd q2 (by decide)
      · exact g.2
      · exact g.2
theorem an_count (h : INV N xs σ n L S D ol pth) (w : Int32) : ctY σ L w = ctA σ S w := by
  obtain ⟨k1, k2, k3, k4, k5, k6⟩ := h.2.2.2.2.1
  obtain ⟨c1, c2, c3, c4, c5, c6, c7, c8, c9, c10, c11⟩ := h.2.2.2.1
  unfold ctY ctA
  rw [k1, k2, k3, k4, k5, k6, ← an_pairs h.1.2.2 h.1.1, ← h.bd, c9, h.ln.2, c7, c6, h.2.2.1.2.2.2.1]
theorem ctA_of (hq : QQ σ σ') (S : Nat) (w : Int32) : ctA σ' S w = ctA σ S w := by
  have e78 : gi σ' 78 = gi σ 78 := funext fun k => hq.i (by omega) (by unfold sci; omega)
  have e88 : gi σ' 88 = gi σ 88 := funext fun k => hq.i (by omega) (by unfold sci; omega)
  have e : ∀ k, k ≠ 18 → k ≠ 27 → gi σ' 68 k = gi σ 68 k := fun k h1 h2 => hq.i (by omega) (by unfold sci; omega)
  unfold ctA
  rw [e 13 (by omega) (by omega), e 14 (by omega) (by omega), e 15 (by omega) (by omega), e 16 (by omega) (by omega), e 17 (by omega) (by omega), e 42 (by omega) (by omega), paB_of hq.m, bdA_of hq.m, e78, e88]
theorem op_count (h : INV N xs σ n L S D ol pth) (hn : n < 64) (w : Int32) : CI (d + 40) 86 [aR (some 1), aI w] σ (fun a σ1 => CI (d + 40) 162 [aR (some 68), aI w] σ1 (fun b σ2 => a = b ∧ IV N xs σ2 (n + 1))) := by
  refine X_count h.1.1 (fun σ1 hq hI1 => ?_)
  have h1 := h.x hq hI1
  refine M_count h1.1.2.1 h1.v (fun σ2 hs => ⟨?_, (h1.m (MQs.c4 hs)).iv hn⟩)
  rw [ctA_of hq.qq, an_count h]
theorem op_part (h : INV N xs σ n L S D ol pth) (hn : n < 64) (x w : Int32) : CL (d + 40) 75 [aR (some 1), aI x, aI w] σ (fun a σ1 => CL (d + 40) 147 [aR (some 68), aI x, aI w] σ1 (fun b σ2 => a = b ∧ IV N xs σ2 (n + 1))) := by
  obtain ⟨ts, t1, t2, t3⟩ := h.2.2.2.2.2.1
  have el : (ts.reverse.map (fun q => (q.1, q.2.2.1, q.2.2.2))).length = ts.length := by simp
  refine X_part h.1.1.xb t1 t2 (fun c => ?_) (fun i q hi e hq => ?_)
  · refine M_part_ h.1.2.1 t3 (by omega) (fun _ => ⟨rfl, h.iv hn⟩) (fun i hi e => ?_)
    subst e
    rw [el] at hi
    rcases c with g | g
    · exact absurd g (nI_pos (by omega))
    · exact absurd g (nI_ge (a := i) (b := ts.length) hi (by omega))
  · subst e
    refine M_part_ h.1.2.1 t3 (by omega) (fun c => ?_) (fun i' hi' e => ⟨?_, h.iv hn⟩)
    · rw [el] at c
      rcases c with g | g
      · exact absurd g (nI_pos (by omega))
      · exact absurd g (nI_ge (a := i) (b := ts.length) hi (by omega))
    · rw [el] at hi'
      have ei : i = i' := (nI_eq (by omega) (by omega)).mp e
      unfold tpA
      rw [← ei, List.getElem?_map, List.getElem?_reverse hi, hq]
      rfl
theorem cnt_up1 {p q : Nat → Bool} {a : Nat} (h1 : ∀ j, j ≠ a → q j = p j) (h2 : q a = true) : ∀ (m k : Nat), k ≤ a → a < k + m → cnt q k m = cnt p k m + (if p a then 0 else 1)
  | 0, k, h3, h4 => by omega
  | m + 1, k, h3, h4 => by
    rw [cnt, cnt]
    by_cases e : k = a
    · subst e
      rw [h2, cnt_congr m (k + 1) (q := p) (fun j g1 g2 => h1 j (by omega))]
      cases p k <;> simp <;> omega
    · rw [h1 k e, cnt_up1 h1 h2 m (k + 1) (by omega) (by omega)]
      omega
theorem op_attempt (h : INV N xs σ n L S D ol pth) (hn : n < 64) (x : Int32) (v : Int64) : CI (d + 40) 72 [aR (some 1), aI x, aL v] σ (fun a σ1 => CI (d + 40) 138 [aR (some 68), aI x, aL v] σ1 (fun b σ2 => a = b ∧ IV N xs σ2 (n + 1))) := by
  obtain ⟨k1, k2, k3, k4, k5, k6⟩ := h.2.2.1
  refine X_attempt h.1.1.xb (fun c => ?_) (fun c1 c2 => ?_) (fun a ha e c1 c2 => ?_)
  · refine M_attempt h.1.2.1 (fun _ => ⟨rfl, h.iv hn⟩) (fun c1 => absurd c c1) (fun a ha e => ?_)
    subst e
    rcases c with q | q
    · exact absurd q (in6 ha).1
    · exact absurd q (in6 ha).2
  · refine M_attempt h.1.2.1 (fun q => absurd q c1) (fun _ _ => ⟨rfl, h.iv hn⟩) (fun a ha e g1 g2 => ?_)
    rcases c2 with q | q
    · exact absurd q g1
    · exact absurd q g2
  · subst e
    have gT : ∀ b k, ¬ (b = 7 ∧ k = 7) → b ≠ 13 → gi (tyX σ a v) b k = gi σ b k := fun b k e1 e2 => by
      unfold tyX
      rw [gi_sl_r, gi_si_k, if_neg (fun q => e2 q.1), gi_si_k, if_neg e1]
    have lT : ∀ b, b ≠ 12 → gl (tyX σ a v) b = gl σ b := fun b e => by
      unfold tyX
      rw [gl_sl_r, if_neg e, gl_si_r, gl_si_r]
    have hM : MB (tyX σ a v) S := MB_of (σ := σ) (Nat.le_refl _) (gT 68 0 (by omega) (by omega)) rfl h.1.2.1
    refine M_attempt hM (fun q => ?_) (fun _ q => ?_) (fun b hb e g1 g2 => ?_)
    · rcases q with q | q
      · exact absurd q (in6 ha).1
      · exact absurd q (in6 ha).2
    · rcases q with q | q
      · exact absurd q c1
      · exact absurd q c2
    · have eb : a = b := (nI_eq (by omega) (by omega)).mp e
      subst eb
      have gF : ∀ b k, ¬ (b = 7 ∧ k = 7) → b ≠ 13 → ¬ (b = 88 ∧ k = a) → gi (si (sl (tyX σ a v) 87 a v) 88 a 1) b k = gi σ b k := fun b k e1 e2 e3 => by
        rw [gi_si_k, if_neg e3, gi_sl_r]; exact gT b k e1 e2
      have lF : ∀ b, b ≠ 12 → b ≠ 87 → gl (si (sl (tyX σ a v) 87 a v) 88 a 1) b = gl σ b := fun b e1 e2 => by
        rw [gl_si_r, gl_sl_r, if_neg e2]; exact lT b e1
      have f88 : ∀ j, gi (si (sl (tyX σ a v) 87 a v) 88 a 1) 88 j = if j = a then 1 else gi σ 88 j := fun j => by
        by_cases q : j = a
        · rw [gi_si_k, if_pos ⟨rfl, q⟩, if_pos q]
        · rw [gF 88 j (by omega) (by omega) (by omega), if_neg q]
      have f13 : ∀ j, gi (si (sl (tyX σ a v) 87 a v) 88 a 1) 13 j = if j = a then 1 else gi σ 13 j := fun j => by
        rw [gi_si_k, if_neg (by omega), gi_sl_r]
        unfold tyX
        rw [gi_sl_r, gi_si_k]
        by_cases q : j = a
        · rw [if_pos ⟨rfl, q⟩, if_pos q]
        · rw [if_neg (fun g => q g.2), if_neg q, gi_si_k, if_neg (by omega)]
      have f77 : gi (si (sl (tyX σ a v) 87 a v) 88 a 1) 7 7 = gi σ 7 7 + if gi σ 13 a = 0 then 1 else 0 := by
        rw [gi_si_k, if_neg (by omega), gi_sl_r]
        unfold tyX
        rw [gi_sl_r, gi_si_k, if_neg (by omega), gi_si_k, if_pos ⟨rfl, rfl⟩]
      have cn : cnt (fun k => decide (¬ gi (si (sl (tyX σ a v) 87 a v) 88 a 1) 88 k = 0)) 0 6 = cnt (fun k => decide (¬ gi σ 88 k = 0)) 0 6 + (if decide (¬ gi σ 88 a = 0) then 0 else 1) := cnt_up1 (fun j hj => by rw [f88, if_neg hj]) (by rw [f88, if_pos rfl]; decide) 6 0 (by omega) (by omega)
      have ea : gi σ 7 7 + (if gi σ 13 a = 0 then 1 else 0) = nI (cnt (fun k => decide (¬ gi (si (sl (tyX σ a v) 87 a v) 88 a 1) 88 k = 0)) 0 6) := by
        rw [cn, k4, (k3 a ha).2.1]
        by_cases q : gi σ 88 a = 0
        · simp only [q, if_true, not_true_eq_false, decide_false, Bool.false_eq_true, if_false]
          rw [nI_1]
        · simp only [q, if_false, not_false_eq_true, decide_true, if_true]
          rw [Int32.add_zero]; rfl
      refine ⟨ea, ?_⟩
      refine INV.iv (L := L) (S := S) (D := D) (ol := ol) (pth := pth) (h.fr ?_ ?_ (fun b k hk => gF b k (by unfold kc at hk; omega) (by unfold kc at hk; omega) (by unfold kc at hk; omega)) (fun b hb => lF b (by omega) (by omega)) rfl ?_ ?_) hn
      · refine h.1.1.of rfl rfl (fun b hb => ⟨funext fun k => gF b k (by omega) (by omega) (by omega), lF b (by omega) (by omega)⟩) (fun u hu => ⟨gF _ _ (by omega) (by omega) (by omega), gF _ _ (by omega) (by omega) (by omega)⟩) ?_
        rw [gF 7 6 (by omega) (by omega) (by omega)]
        rcases h.1.1.2.2.2 with q | q
        · exact Or.inl q
        · exact Or.inr ⟨q.1, KN_of (lF 8 (by omega) (by omega)) (lF 9 (by omega) (by omega)) (gF 7 4 (by omega) (by omega) (by omega)) (gF 7 5 (by omega) (by omega) (by omega)) (funext fun k => gF 11 k (by omega) (by omega) (by omega)) q.2⟩
      · exact MB_of (σ := σ) (Nat.le_refl _) (gF 68 0 (by omega) (by omega) (by omega)) rfl h.1.2.1
      · refine ⟨by rw [lF 10 (by omega) (by omega), lF 86 (by omega) (by omega)]; exact k1, by rw [lF 10 (by omega) (by omega)]; exact k2, fun j hj => ⟨?_, ?_, ?_⟩, by rw [f77]; exact ea, ?_, ?_⟩
        · have l12 : gl (si (sl (tyX σ a v) 87 a v) 88 a 1) 12 j = if j = a then v else gl σ 12 j := by
            rw [gl_si_r, gl_sl_r, if_neg (by omega)]
            unfold tyX
            rw [gl_sl_k]
            by_cases q : j = a
            · rw [if_pos ⟨rfl, q⟩, if_pos q]
            · rw [if_neg (fun g => q g.2), if_neg q, gl_si_r, gl_si_r]
          have l87 : gl (si (sl (tyX σ a v) 87 a v) 88 a 1) 87 j = if j = a then v else gl σ 87 j := by
            rw [gl_si_r, gl_sl_k]
            by_cases q : j = a
            · rw [if_pos ⟨rfl, q⟩, if_pos q]
            · rw [if_neg (fun g => q g.2), if_neg q, lT 87 (by omega)]
          rw [l12, l87, (k3 j hj).1]
        · rw [f13, f88, (k3 j hj).2.1]
        · rw [f88]
          split
          · exact Or.inr rfl
          · exact (k3 j hj).2.2
        · rw [show gi (si (sl (tyX σ a v) 87 a v) 88 a 1) 26 = gi σ 26 from funext fun k => gF 26 k (by omega) (by omega) (by omega), show gi (si (sl (tyX σ a v) 87 a v) 88 a 1) 97 = gi σ 97 from funext fun k => gF 97 k (by omega) (by omega) (by omega)]
          exact k5
        · rw [gF 1 8 (by omega) (by omega) (by omega), gF 68 38 (by omega) (by omega) (by omega)]; exact k6
      · exact TW_of (gF 14 4 (by omega) (by omega) (by omega)) (fun b hb => funext fun k => gF b k (by omega) (by omega) (by omega)) (gF 68 33 (by omega) (by omega) (by omega)) (fun b hb => lF b (by omega) (by omega)) h.2.2.2.2.2.1
end
