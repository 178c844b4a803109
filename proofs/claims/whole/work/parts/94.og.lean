/-! report: which is less; the new cell; a place in the row -/
def sg3 (c : Int32) (d : Int64) : Prop := (c = 0 ↔ d = 0) ∧ (c < 0 ↔ d < 0) ∧ (0 < c ↔ 0 < d)
theorem sg_or {c c' : Int32} {d d' : Int64} (h : sg3 c d) (h' : sg3 c' d') : sg3 (orI c c') (orD d d') := by
  unfold orI orD
  by_cases e : c = 0
  · rw [if_pos e, if_pos (h.1.mp e)]; exact h'
  · rw [if_neg e, if_neg (fun q => e (h.1.mpr q))]; exact h
theorem sg_of {c : Int32} {d : Int64} {z : Int} (hc : (c = 0 ↔ z = 0) ∧ (c < 0 ↔ z < 0) ∧ (0 < c ↔ 0 < z)) (hd : d.toInt = z) : sg3 c d := by
  have t0 : (0 : Int64).toInt = 0 := by decide
  refine ⟨hc.1.trans ?_, hc.2.1.trans ?_, hc.2.2.trans ?_⟩
  · rw [← Int64.toInt_inj, hd, t0]
  · rw [Int64.lt_iff_toInt_lt, hd, t0]
  · rw [Int64.lt_iff_toInt_lt, hd, t0]
theorem c3_of {c : Int32} {z : Int} (h : (c = -1 ∧ z < 0) ∨ (c = 0 ∧ z = 0) ∨ (c = 1 ∧ 0 < z)) : (c = 0 ↔ z = 0) ∧ (c < 0 ↔ z < 0) ∧ (0 < c ↔ 0 < z) := by
  rcases h with ⟨e, h⟩ | ⟨e, h⟩ | ⟨e, h⟩
  · rw [e]; exact ⟨⟨fun q => absurd q (by decide), fun q => by omega⟩, ⟨fun _ => h, fun _ => by decide⟩, ⟨fun q => absurd q (by decide), fun q => by omega⟩⟩
  · rw [e]; exact ⟨⟨fun _ => h, fun _ => rfl⟩, ⟨fun q => absurd q (by decide), fun q => by omega⟩, ⟨fun q => absurd q (by decide), fun q => by omega⟩⟩
  · rw [e]; exact ⟨⟨fun q => absurd q (by decide), fun q => by omega⟩, ⟨fun q => absurd q (by decide), fun q => by omega⟩, ⟨fun _ => h, fun _ => by decide⟩⟩
theorem cI_z (x y : Int32) : (cI x y = -1 ∧ x.toInt - y.toInt < 0) ∨ (cI x y = 0 ∧ x.toInt - y.toInt = 0) ∨ (cI x y = 1 ∧ 0 < x.toInt - y.toInt) := by
  unfold cI
  by_cases h : x < y
  · rw [if_pos h]; rw [Int32.lt_iff_toInt_lt] at h; exact Or.inl ⟨rfl, by omega⟩
  · rw [if_neg h]
    rw [Int32.lt_iff_toInt_lt] at h
    by_cases e : x = y
    · rw [if_pos e, e]; exact Or.inr (Or.inl ⟨rfl, by omega⟩)
    · rw [if_neg e]
      have : ¬ x.toInt = y.toInt := fun q => e (of_toInt q)
      exact Or.inr (Or.inr ⟨rfl, by omega⟩)
theorem cL_z (x y : Int64) : (cL x y = -1 ∧ x.toInt - y.toInt < 0) ∨ (cL x y = 0 ∧ x.toInt - y.toInt = 0) ∨ (cL x y = 1 ∧ 0 < x.toInt - y.toInt) := by
  unfold cL
  by_cases h : x < y
  · rw [if_pos h]; rw [Int64.lt_iff_toInt_lt] at h; exact Or.inl ⟨rfl, by omega⟩
  · rw [if_neg h]
    rw [Int64.lt_iff_toInt_lt] at h
    by_cases e : x = y
    · rw [if_pos e, e]; exact Or.inr (Or.inl ⟨rfl, by omega⟩)
    · rw [if_neg e]
      have : ¬ x.toInt = y.toInt := fun q => e (Int64.toInt_inj.mp q)
      exact Or.inr (Or.inr ⟨rfl, by omega⟩)
theorem orI_as (a b c : Int32) : orI (orI a b) c = orI a (orI b c) := by
  unfold orI
  by_cases h : a = 0
  · rw [if_pos h, if_pos h]
  · rw [if_neg h, if_neg h, if_neg h]
theorem sg_R {r q : Rw} (hr : okR r) (hq : okR q) : sg3 (cmR r q) (dR r q) := by
  obtain ⟨-, -, ⟨p, hp, ep⟩, ⟨v, hv, ev⟩, ⟨c, hc, ec⟩, ⟨k, hk, ek⟩, ⟨f, hf, ef⟩, ⟨b, e, hb, he, eb, ee⟩⟩ := hr
  obtain ⟨-, -, ⟨p', hp', ep'⟩, ⟨v', hv', ev'⟩, ⟨c', hc', ec'⟩, ⟨k', hk', ek'⟩, ⟨f', hf', ef'⟩, ⟨b', e', hb', he', eb', ee'⟩⟩ := hq
  have i32 : ∀ a a' : Nat, a ≤ 1000 → a' ≤ 1000 → sg3 (cI (nI a) (nI a')) (nI a - nI a').toInt64 := fun a a' h1 h2 => by
    refine sg_of (c3_of (cI_z (nI a) (nI a'))) ?_
    rw [Int32.toInt_toInt64, pk_sub_toInt (by omega) (by omega), nI_toInt (by omega), nI_toInt (by omega)]
  have i64 : ∀ a a' : Nat, a ≤ 1000000000 → a' ≤ 1000000000 → sg3 (cL (lN a) (lN a')) (lN a - lN a') := fun a a' h1 h2 => by
    refine sg_of (c3_of (cL_z (lN a) (lN a'))) ?_
    rw [(lN_dif h1 h2).2, lN_toInt (by omega), lN_toInt (by omega)]
  have iP : sg3 (cI (nI p) (nI p')) ((nI p).toInt64 - (nI p').toInt64) := by
    refine sg_of (c3_of (cI_z (nI p) (nI p'))) ?_
    rw [nI_l (by omega), nI_l (by omega), (lN_dif (by omega) (by omega)).2, nI_toInt (by omega), nI_toInt (by omega)]
  unfold cmR dR
  rw [ep, ev, ec, ek, ef, eb, ee, ep', ev', ec', ek', ef', eb', ee']
  simp only [orI_as]
  exact sg_or iP (sg_or (i32 v v' (by omega) (by omega)) (sg_or (i32 c c' (by omega) (by omega)) (sg_or (i32 k k' (by omega) (by omega)) (sg_or (i32 f f' (by omega) (by omega)) (sg_or (i64 b b' (by omega) (by omega)) (i64 e e' he he'))))))
theorem insL_perm (σ : Sto) (m : Nat) : ∀ (l : List Nat), (insL σ m l).Perm (m :: l)
  | [] => List.Perm.refl _
  | a :: l => by
    unfold insL
    split
    · exact ((insL_perm σ m l).cons a).trans (List.Perm.swap m a l)
    · exact List.Perm.refl _
theorem insL_so {σ : Sto} {m : Nat} : ∀ {l : List Nat}, SO σ l → (∀ a, a ∈ l → ¬ gi σ a 0 = gi σ m 0) → SO σ (insL σ m l)
  | [], _, _ => List.pairwise_singleton _ _
  | a :: l, h, hd => by
    unfold SO at h
    rw [List.pairwise_cons] at h
    unfold insL
    cases hb : ahX σ a m with
    | true =>
      simp only [if_true]
      unfold SO
      rw [List.pairwise_cons]
      refine ⟨fun b hb' => ?_, insL_so h.2 (fun c hc => hd c (List.mem_cons_of_mem _ hc))⟩
      rcases List.mem_cons.mp ((insL_perm σ m l).mem_iff.mp hb') with e | e
      · rw [e]; exact hb
      · exact h.1 b e
    | false =>
      simp only [Bool.false_eq_true, if_false]
      have hma : ahX σ m a = true := by
        rcases ahB_total (r := rwX σ 0 a) (q := rwX σ 0 m) (hd a (List.mem_cons_self ..)) with q | q
        · have : ahX σ a m = true := q
          rw [hb] at this; cases this
        · exact q
      unfold SO
      rw [List.pairwise_cons, List.pairwise_cons]
      refine ⟨fun b hb' => ?_, h⟩
      rcases List.mem_cons.mp hb' with e | e
      · rw [e]; exact hma
      · exact ahB_trans hma (h.1 b e)
theorem bdX_mem {σ σ' : Sto} {L : Nat → List Nat} (hr : ∀ t, t < 20 → ∀ a, a ∈ L t → rwX σ' 0 a = rwX σ 0 a) (hg : ∀ t, t < 20 → ∀ a, a ∈ L t → 103 ≤ a) : bdX σ' L = bdX σ L := by
  refine itr_congr 20 0 _ (fun t o _ ht => ?_)
  have ht' : t < 20 := by omega
  have hu : ∀ a, a ∈ L t → uX σ' (L t) a = uX σ (L t) a := fun a ha => by
    rw [uX_eq (hg t ht' a ha), uX_eq (hg t ht' a ha), show gi σ' a 1 = gi σ a 1 from congrArg rP (hr t ht' a ha)]
    exact find_congr (fun b hb => by unfold nuX; rw [show gi σ' b 0 = gi σ b 0 from congrArg rN (hr t ht' b hb)])
  have go : ∀ (m : List Nat) (o : Nat → Option Int64), (∀ a, a ∈ m → a ∈ L t) → tpL σ' (L t) m o = tpL σ (L t) m o := by
    intro m
    induction m with
    | nil => intro o _; rfl
    | cons a m ih =>
      intro o hm
      have ha := hm a (List.mem_cons_self ..)
      have e : tpS σ' (L t) a o = tpS σ (L t) a o := by
        unfold tpS
        rw [hu a ha]
        cases hc : uX σ (L t) a with
        | none => rfl
        | some p => simp only [hr t ht' a ha, hr t ht' p (uX_mem hc)]
      rw [tpL, tpL, e, ih _ (fun b hb => hm b (List.mem_cons_of_mem _ hb))]
  exact go (L t) o (fun a ha => ha)
/-- a cell more, that no row has -/
theorem XI.nw {σ : Sto} {L : Nat → List Nat} (hI : XI σ L) (r : Rw) : XI (nwX σ r) L := by
  have s103 := hI.xb.1
  have hne : ∀ u, u < 20 → ∀ a, a ∈ L u → a ≠ sn σ := fun u hu a ha q => by
    have := (lkt_mem (hI.t hu).2.2.2.1 a ha).2
    omega
  have hw : ∀ (t : Int32) u, u < 20 → ∀ a, a ∈ L u → rwX (nwX σ r) t a = rwX σ t a := fun t u hu a ha => by
    unfold rwX; rw [nwX_gi (hne u hu a ha), nwX_gl (hne u hu a ha)]
  refine ⟨nwX_xb hI.xb, fun u hu => ⟨?_, by rw [nwX_gi (by omega)]; exact hI.n hu, fun a ha => by rw [hw _ u hu a ha]; exact hI.r hu a ha⟩, hI.2.2.1, ?_⟩
  · obtain ⟨q1, q2, q3, q4, q5, q6⟩ := hI.t hu
    have hg := hI.g hu
    have huu : ∀ a, a ∈ L u → uX (nwX σ r) (L u) a = uX σ (L u) a := fun a ha => by
      rw [uX_eq (hg a ha), uX_eq (hg a ha), nwX_gi (hne u hu a ha)]
      exact find_congr (fun b hb => by unfold nuX; rw [nwX_gi (hne u hu b hb)])
    have hcl : ∀ (f a d : Nat), a ∈ L u → clI (uX (nwX σ r) (L u)) f a d = clI (uX σ (L u)) f a d := by
      intro f
      induction f with
      | zero => intro a d _; rfl
      | succ f ih =>
        intro a d ha
        unfold clI
        rw [huu a ha]
        cases hc : uX σ (L u) a with
        | none => rfl
        | some b => exact ih b (d + 1) (uX_mem hc)
    refine ⟨⟨Nat.lt_succ_of_lt q1.1, q1.2⟩, q2, by rw [nwX_gr (by omega)]; exact q3, nwX_lk q4, q5, ?_⟩
    rw [nwX_gi (by omega)]
    refine q6.imp id (fun q => ⟨q.1, fun a ha => ?_⟩)
    have hro : roI (uX (nwX σ r) (L u)) a = roI (uX σ (L u)) a ∧ deI (uX (nwX σ r) (L u)) a = deI (uX σ (L u)) a := by
      have := hcl 31 a 0 ha
      unfold roI deI
      rw [this]
      exact ⟨rfl, rfl⟩
    rw [nwX_gr (hne u hu a ha), nwX_gi (hne u hu a ha), huu a ha, hro.1, hro.2]
    exact q.2 a ha
  · rw [nwX_gi (by omega), bdX_mem (fun t ht a ha => hw 0 t ht a ha) (fun t ht => hI.g ht)]
    rcases hI.2.2.2 with q | q
    · exact Or.inl q
    · exact Or.inr ⟨q.1, KN_of (nwX_gl (by omega)) (nwX_gl (by omega)) (by rw [nwX_gi (by omega)]) (by rw [nwX_gi (by omega)]) (nwX_gi (by omega)) q.2⟩
section
variable {N : Nat} {xs : Nat → Int32} {σ σ' : Sto} {n d : Nat} {L : Nat → List Nat} {S : Nat} {D : List Rw} {ol : List Nat} {pth : Nat → List Int32}
theorem INV.nw (h : INV N xs σ n L S D ol pth) (r : Rw) : INV N xs (nwX σ r) n L S D ol pth := by
  obtain ⟨⟨i1, i2, i3⟩, i4, i5, i6, i7, i8, i9, i10⟩ := h
  have s103 := i1.xb.1
  have g : ∀ a, a < 103 → gi (nwX σ r) a = gi σ a := fun a ha => nwX_gi (by omega)
  have l : ∀ a, a < 103 → gl (nwX σ r) a = gl σ a := fun a ha => nwX_gl (by omega)
  have em : rwM (nwX σ r) = rwM σ := by
    funext k
    unfold rwM
    rw [g 69 (by omega), g 70 (by omega), g 71 (by omega), g 72 (by omega), g 73 (by omega), g 74 (by omega), g 75 (by omega), l 76 (by omega), l 77 (by omega)]
  have hne : ∀ u, u < 20 → ∀ a, a ∈ L u → a ≠ sn σ := fun u hu a ha q => by
    have := (lkt_mem (i1.t hu).2.2.2.1 a ha).2
    omega
  have hw : ∀ (t : Int32) u, u < 20 → ∀ a, a ∈ L u → rwX (nwX σ r) t a = rwX σ t a := fun t u hu a ha => by
    unfold rwX; rw [nwX_gi (hne u hu a ha), nwX_gl (hne u hu a ha)]
  refine ⟨⟨i1.nw r, MB_of (σ := σ) (Nat.le_succ _) (by rw [g 68 (by omega)]) (nwX_gr (by omega)) i2, ?_⟩, TTs_of em (fun a k ha => by rw [g a (by omega)]) i4, CKs_of (fun a ha => l a (by omega)) (fun a ha => g a (by omega)) (by rw [g 7 (by omega)]) (by rw [g 1 (by omega)]) (by rw [g 68 (by omega)]) i5, CS_of (fun t k ht hk => by rw [g _ (by omega)]) (fun t ht => g _ (by omega)) (fun a ha => g a (by omega)) (by rw [g 68 (by omega)]) (by rw [g 1 (by omega)]) (by rw [g 1 (by omega)]) i6, CT_of (fun k h1 h2 => by rw [g 1 (by omega)]) (fun k h1 h2 => by rw [g 68 (by omega)]) i7, TW_of (by rw [g 14 (by omega)]) (fun a ha => g a (by omega)) (by rw [g 68 (by omega)]) (fun a ha => l a (by omega)) i8, SC_of (by rw [nwX_gr (by omega)]) (g 0 (by omega)) i9, i10⟩
  obtain ⟨h1, h2, h3, h4⟩ := i3
  refine ⟨fun k hk => by rw [em]; exact h1 k hk, by rw [rws_of em]; exact h2, fun t ht => ?_, fun t ht => ⟨?_, (h4 t ht).2⟩⟩
  · rw [rws_of em]
    have e : (L t).map (rwX (nwX σ r) (nI t)) = (L t).map (rwX σ (nI t)) := List.map_congr_left (fun a ha => hw _ t ht a ha)
    rw [e]
    exact h3 t ht
  · refine List.Pairwise.imp_of_mem (fun {a b} ha hb q => ?_) (h4 t ht).1
    unfold ahX at q ⊢
    rw [hw _ t ht a ha, hw _ t ht b hb]
    exact q
/-- a counter on either side -/
theorem INV.cc (h : INV N xs σ n L S D ol pth) {k j : Nat} (hk : (k = 10 ∧ j = 13) ∨ (k = 11 ∧ j = 14) ∨ (k = 13 ∧ j = 16)) : INV N xs (si (si σ 1 k (gi σ 1 k + 1)) 68 j (gi σ 68 j + 1)) n L S D ol pth := by
  obtain ⟨⟨i1, i2, i3⟩, i4, i5, i6, i7, i8, i9, i10⟩ := h
  have g : ∀ a i, ¬ (a = 1 ∧ i = k) → ¬ (a = 68 ∧ i = j) → gi (si (si σ 1 k (gi σ 1 k + 1)) 68 j (gi σ 68 j + 1)) a i = gi σ a i := fun a i e1 e2 => by
    rw [gi_si_k, if_neg e2, gi_si_k, if_neg e1]
  have g1 : gi (si (si σ 1 k (gi σ 1 k + 1)) 68 j (gi σ 68 j + 1)) 1 k = gi σ 1 k + 1 := by
    rw [gi_si_k, if_neg (by omega), gi_si_k, if_pos ⟨rfl, rfl⟩]
  have g2 : gi (si (si σ 1 k (gi σ 1 k + 1)) 68 j (gi σ 68 j + 1)) 68 j = gi σ 68 j + 1 := by
    rw [gi_si_k, if_pos ⟨rfl, rfl⟩]
  have em : rwM (si (si σ 1 k (gi σ 1 k + 1)) 68 j (gi σ 68 j + 1)) = rwM σ := by
    funext i
    unfold rwM
    rw [g 69 i (by omega) (by omega), g 70 i (by omega) (by omega), g 71 i (by omega) (by omega), g 72 i (by omega) (by omega), g 73 i (by omega) (by omega), g 74 i (by omega) (by omega), g 75 i (by omega) (by omega)]
    rfl
  have ex : ∀ (t : Int32) a, 103 ≤ a → rwX (si (si σ 1 k (gi σ 1 k + 1)) 68 j (gi σ 68 j + 1)) t a = rwX σ t a := fun t a ha => by
    unfold rwX
    rw [g a 0 (by omega) (by omega), g a 1 (by omega) (by omega), g a 2 (by omega) (by omega), g a 3 (by omega) (by omega), g a 4 (by omega) (by omega), g a 5 (by omega) (by omega)]
    rfl
  refine ⟨⟨?_, MB_of (σ := σ) (Nat.le_refl _) (g 68 0 (by omega) (by omega)) rfl i2, RO_of em ex (fun t ht => i1.g ht) i3⟩, TTs_of em (fun a i ha => g a i (by omega) (by omega)) i4, CKs_of (σ := σ) (fun a ha => rfl) (fun a ha => funext fun i => g a i (by omega) (by omega)) (g 7 7 (by omega) (by omega)) (g 1 8 (by omega) (by omega)) (g 68 38 (by omega) (by omega)) i5, CS_of (fun t i ht hi => g _ i (by omega) (by omega)) (fun t ht => funext fun i => g _ i (by omega) (by omega)) (fun a ha => funext fun i => g a i (by omega) (by omega)) (g 68 42 (by omega) (by omega)) (g 1 15 (by omega) (by omega)) (g 1 7 (by omega) (by omega)) i6, ?_, TW_of (σ := σ) (g 14 4 (by omega) (by omega)) (fun a ha => funext fun i => g a i (by omega) (by omega)) (g 68 33 (by omega) (by omega)) (fun a ha => rfl) i8, SC_of (σ := σ) rfl (funext fun i => g 0 i (by omega) (by omega)) i9, i10⟩
  · refine i1.of rfl rfl (fun a ha => ⟨funext fun i => g a i (by omega) (by omega), rfl⟩) (fun u hu => ⟨g _ _ (by omega) (by omega), g _ _ (by omega) (by omega)⟩) ?_
    rw [g 7 6 (by omega) (by omega)]
    rcases i1.2.2.2 with q | q
    · exact Or.inl q
    · exact Or.inr ⟨q.1, KN_of (σ := σ) rfl rfl (g 7 4 (by omega) (by omega)) (g 7 5 (by omega) (by omega)) (funext fun i => g 11 i (by omega) (by omega)) q.2⟩
  · obtain ⟨r1, r2, r3, r4, r5, r6⟩ := i7
    rcases hk with ⟨rfl, rfl⟩ | ⟨rfl, rfl⟩ | ⟨rfl, rfl⟩
    · exact ⟨by rw [g 1 9 (by omega) (by omega)]; exact r1, by rw [g1, g2, r2], by rw [g 1 11 (by omega) (by omega), g 68 14 (by omega) (by omega)]; exact r3, by rw [g 1 12 (by omega) (by omega), g 68 15 (by omega) (by omega)]; exact r4, by rw [g 1 13 (by omega) (by omega), g 68 16 (by omega) (by omega)]; exact r5, by rw [g 1 14 (by omega) (by omega), g 68 17 (by omega) (by omega)]; exact r6⟩
    · exact ⟨by rw [g 1 9 (by omega) (by omega)]; exact r1, by rw [g 1 10 (by omega) (by omega), g 68 13 (by omega) (by omega)]; exact r2, by rw [g1, g2, r3], by rw [g 1 12 (by omega) (by omega), g 68 15 (by omega) (by omega)]; exact r4, by rw [g 1 13 (by omega) (by omega), g 68 16 (by omega) (by omega)]; exact r5, by rw [g 1 14 (by omega) (by omega), g 68 17 (by omega) (by omega)]; exact r6⟩
    · exact ⟨by rw [g 1 9 (by omega) (by omega)]; exact r1, by rw [g 1 10 (by omega) (by omega), g 68 13 (by omega) (by omega)]; exact r2, by rw [g 1 11 (by omega) (by omega), g 68 14 (by omega) (by omega)]; exact r3, by rw [g 1 12 (by omega) (by omega), g 68 15 (by omega) (by omega)]; exact r4, by rw [g1, g2, r5], by rw [g 1 14 (by omega) (by omega), g 68 17 (by omega) (by omega)]; exact r6⟩
end
