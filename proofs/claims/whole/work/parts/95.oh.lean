/-! both: report -/
section
variable {N : Nat} {xs : Nat → Int32} {σ σ' : Sto} {n d : Nat} {L : Nat → List Nat} {S : Nat} {D : List Rw} {ol : List Nat} {pth : Nat → List Int32}
/-- a row more on either side, in one trace -/
theorem rp_I (h : INV N xs σ n L S D ol pth) (hn : n < 64) {t : Nat} (ht : t < 20) {r : Rw} (hr : okR r) (hrt : rT r = nI t) {l0 l' : List Nat} {Z : List Rw} {S' : Nat} {ρ : Sto} (hl0 : ∀ a, a ∈ l0 → a ∈ L t) (hnd : l0.Nodup) (hnum : ∀ a, a ∈ l0 → ¬ gi σ a 0 = rN r) (hl' : l' = insL (nwX σ r) (sn σ) l0) (hso0 : SO σ l0) (hlen : l'.length ≤ 30) (z1 : ∀ z, z ∈ Z → okR z) (z2 : (kyR r :: Z.map kyR).Nodup) (z3 : (Z.filter (isT (nI t))).Perm (l0.map (rwX σ (nI t)))) (z4 : ∀ u, u < 20 → u ≠ t → (Z.filter (isT (nI u))).Perm ((L u).map (rwX σ (nI u)))) (zR : (rws ρ 0 S').Perm (r :: Z)) (gF : ∀ a k, a ≠ 4 → a ≠ 5 → a ≠ 6 → ¬ (a = 1 ∧ (k = 9 ∨ k = 11)) → ¬ (a = 7 ∧ k = 6) → ¬ (69 ≤ a ∧ a ≤ 75) → ¬ (a = 68 ∧ (k = 0 ∨ k = 14)) → ¬ (a = 28 + 2 * t ∧ (k = 1 ∨ k = 2)) → gi ρ a k = gi (nwX σ r) a k) (lF : ∀ a, a ≠ 76 → a ≠ 77 → gl ρ a = gl (nwX σ r) a) (rG : ∀ a k, ¬ (a = 28 + 2 * t ∧ k = 0) → ¬ (a ∈ sn σ :: L t ∧ k = 8) → gr ρ a k = gr (nwX σ r) a k) (sF : sn ρ = sn σ + 1) (t0 : gr ρ (28 + 2 * t) 0 = l'.head?) (t1 : gi ρ (28 + 2 * t) 1 = nI l'.length) (t2 : gi ρ (28 + 2 * t) 2 = 0) (tl : lkt ρ l' none) (k7 : gi ρ 7 6 = 0) (hM0 : gi ρ 68 0 = nI S') (hS' : S' ≤ 200) (T4 : ∀ p, p < 48 → gi ρ 4 p = nI ((D ++ rws ρ 0 S').countP (fun r => decide (gfI r = p)))) (T5 : ∀ p, p < 48 → gi ρ 5 p = nI ((D ++ rws ρ 0 S').countP (fun r => decide (gfI r = p ∧ rF r = 1)))) (T6 : ∀ p j, p < 48 → j ≤ 30 → gi ρ 6 (31 * p + j) = nI ((D ++ rws ρ 0 S').countP (fun r => decide (gfI r = p ∧ stp r = j)))) (hCT : CT ρ S') (hb : S' + D.length ≤ n + 1) : IV N xs ρ (n + 1) := by
  obtain ⟨⟨i1, i2, i3⟩, i4, i5, i6, i7, i8, i9, i10⟩ := id h
  have s103 := i1.xb.1
  have hlp : l'.Perm (sn σ :: l0) := by rw [hl']; exact insL_perm _ _ _
  have hnew : ∀ u, u < 20 → ∀ a, a ∈ L u → a ≠ sn σ := fun u hu a ha q => by
    have := (lkt_mem (i1.t hu).2.2.2.1 a ha).2
    omega
  have g : ∀ a k, a < 103 → a ≠ 4 → a ≠ 5 → a ≠ 6 → ¬ (a = 1 ∧ (k = 9 ∨ k = 11)) → ¬ (a = 7 ∧ k = 6) → ¬ (69 ≤ a ∧ a ≤ 75) → ¬ (a = 68 ∧ (k = 0 ∨ k = 14)) → ¬ (a = 28 + 2 * t ∧ (k = 1 ∨ k = 2)) → gi ρ a k = gi σ a k := fun a k e0 e1 e2 e3 e4 e5 e6 e7 e8 => by
    rw [gF a k e1 e2 e3 e4 e5 e6 e7 e8, nwX_gi (by omega)]
  have gA : ∀ a, 103 ≤ a → gi ρ a = gi (nwX σ r) a := fun a ha => funext fun k => gF a k (by omega) (by omega) (by omega) (by omega) (by omega) (by omega) (by omega) (by omega)
  have rwA : ∀ u a, 103 ≤ a → rwX ρ u a = rwX (nwX σ r) u a := fun u a ha => by
    unfold rwX; rw [gA a ha, lF a (by omega) (by omega)]
  have rwO : ∀ u a, 103 ≤ a → a ≠ sn σ → rwX ρ u a = rwX σ u a := fun u a ha hne => by
    rw [rwA u a ha]; unfold rwX; rw [nwX_gi hne, nwX_gl hne]
  have rwN : rwX ρ (nI t) (sn σ) = r := by rw [rwA _ _ s103, ← hrt]; exact nwX_rw
  have l0g : ∀ a, a ∈ l0 → 103 ≤ a ∧ a ≠ sn σ := fun a ha => ⟨i1.g ht a (hl0 a ha), hnew t ht a (hl0 a ha)⟩
  have hX : XB ρ := XB_of (σ := σ) (by rw [sF]; omega) (fun a k ha hk => by rw [rG a k (by omega) (fun q => by rcases List.mem_cons.mp q.1 with e | e; omega; have := i1.g ht a e; omega), nwX_gr (by omega)]) i1.xb
  have hnd' : l'.Nodup := (hlp.nodup_iff).mpr (List.nodup_cons.mpr ⟨fun q => (l0g _ q).2 rfl, hnd⟩)
  have hXI : XI ρ (up1 L t l') := by
    refine i1.chg hX (by rw [sF]; omega) ⟨hX.oT ht, by omega, t0, tl, hnd', Or.inl t2⟩ t1 (fun a ha => ?_) (fun u hu hne a ha q => ?_) k7 (fun u hu hne a ha => ?_) (fun u hu hne => ?_)
    · rcases List.mem_cons.mp (hlp.mem_iff.mp ha) with e | e
      · rw [e, rwN]; exact hr
      · rw [rwO _ a (l0g a e).1 (l0g a e).2]; exact i1.r ht a (hl0 a e)
    · rcases List.mem_cons.mp (hlp.mem_iff.mp q) with e | e
      · exact hnew u hu a ha e
      · exact i1.2.2.1 u t hu ht hne a ha (hl0 a e)
    · have g3 := i1.g hu a ha
      have gn := hnew u hu a ha
      refine ⟨by rw [gA a g3, nwX_gi gn], funext fun k => ?_, by rw [lF a (by omega) (by omega), nwX_gl gn]⟩
      rw [rG a k (by omega) (fun q => by rcases List.mem_cons.mp q.1 with e | e; exact gn e; exact i1.2.2.1 u t hu ht hne a ha e), nwX_gr gn]
    · refine ⟨g _ _ (by omega) (by omega) (by omega) (by omega) (by omega) (by omega) (by omega) (by omega) (by omega), g _ _ (by omega) (by omega) (by omega) (by omega) (by omega) (by omega) (by omega) (by omega) (by omega), ?_⟩
      rw [rG _ _ (by omega) (fun q => by omega), nwX_gr (by omega)]
  have f : ∀ a, a < 103 → a ≠ 1 → a ≠ 4 → a ≠ 5 → a ≠ 6 → a ≠ 7 → ¬ (69 ≤ a ∧ a ≤ 75) → a ≠ 68 → a ≠ 28 + 2 * t → gi ρ a = gi σ a := fun a e0 e1 e2 e3 e4 e5 e6 e7 e8 => funext fun k => g a k e0 e2 e3 e4 (by omega) (by omega) e6 (by omega) (by omega)
  have lo : ∀ a, a < 103 → a ≠ 76 → a ≠ 77 → gl ρ a = gl σ a := fun a e0 e1 e2 => by rw [lF a e1 e2, nwX_gl (by omega)]
  refine ⟨up1 L t l', S', D, ol, pth, ⟨hXI, ?_, ?_⟩, ⟨i4.1, fun i hi => by rw [f 101 (by omega) (by omega) (by omega) (by omega) (by omega) (by omega) (by omega) (by omega) (by omega)]; exact i4.2.1 i hi, fun i hi => by rw [f 102 (by omega) (by omega) (by omega) (by omega) (by omega) (by omega) (by omega) (by omega) (by omega)]; exact i4.2.2.1 i hi, T4, T5, T6⟩, ?_, ?_, hCT, ?_, ?_, hb, by omega⟩
  · obtain ⟨b1, b2, b3, b4⟩ := i2
    refine ⟨by rw [sF]; omega, hS', hM0, ?_⟩
    have : gr ρ 68 = gr σ 68 := funext fun k => by rw [rG 68 k (by omega) (fun q => by rcases List.mem_cons.mp q.1 with e | e; omega; have := i1.g ht 68 e; omega), nwX_gr (by omega)]
    rw [this]
    exact b4
  · refine ⟨fun k hk => ?_, ?_, fun u hu => ?_, fun u hu => ?_⟩
    · have : rwM ρ k ∈ rws ρ 0 S' := rws_mem.mpr ⟨k, hk, rfl⟩
      rcases List.mem_cons.mp (zR.mem_iff.mp this) with e | e
      · rw [e]; exact hr
      · exact z1 _ e
    · exact ((zR.map kyR).nodup_iff).mpr z2
    · refine (zR.filter (isT (nI u))).trans ?_
      by_cases e : u = t
      · rw [e, up1_s, List.filter_cons_of_pos (by unfold isT; simp [hrt])]
        refine ((z3.cons r).trans ?_).trans (hlp.map (rwX ρ (nI t))).symm
        rw [List.map_cons, rwN]
        have : l0.map (rwX ρ (nI t)) = l0.map (rwX σ (nI t)) := List.map_congr_left (fun a ha => rwO _ a (l0g a ha).1 (l0g a ha).2)
        rw [this]
      · have hne : ¬ isT (nI u) r = true := by
          unfold isT
          rw [hrt, decide_eq_true_eq, nI_eq (by omega) (by omega)]
          exact fun q => e q.symm
        rw [up1_n e, List.filter_cons_of_neg hne]
        have : (L u).map (rwX ρ (nI u)) = (L u).map (rwX σ (nI u)) := List.map_congr_left (fun a ha => rwO _ a (i1.g hu a ha) (hnew u hu a ha))
        rw [this]
        exact z4 u hu e
    · by_cases e : u = t
      · rw [e, up1_s]
        refine ⟨?_, hlen⟩
        have so1 : SO (nwX σ r) l0 := by
          refine List.Pairwise.imp_of_mem (fun {a b} ha hb q => ?_) hso0
          unfold ahX rwX at q ⊢
          rw [nwX_gi (l0g a ha).2, nwX_gl (l0g a ha).2, nwX_gi (l0g b hb).2, nwX_gl (l0g b hb).2]
          exact q
        have so2 : SO (nwX σ r) l' := by
          rw [hl']
          refine insL_so so1 (fun a ha => ?_)
          rw [nwX_gi (l0g a ha).2]
          have e0 : gi (nwX σ r) (sn σ) 0 = rN r := congrArg rN (nwX_rw (σ := σ) (r := r))
          rw [e0]
          exact hnum a ha
        have lg : ∀ a, a ∈ l' → 103 ≤ a := fun a ha => by
          rcases List.mem_cons.mp (hlp.mem_iff.mp ha) with e | e
          · rw [e]; exact s103
          · exact (l0g a e).1
        refine List.Pairwise.imp_of_mem (fun {a b} ha hb q => ?_) so2
        unfold ahX at q ⊢
        rw [rwA _ a (lg a ha), rwA _ b (lg b hb)]
        exact q
      · rw [up1_n e]
        refine ⟨?_, (i3.2.2.2 u hu).2⟩
        refine List.Pairwise.imp_of_mem (fun {a b} ha hb q => ?_) (i3.2.2.2 u hu).1
        unfold ahX at q ⊢
        rw [rwO _ a (i1.g hu a ha) (hnew u hu a ha), rwO _ b (i1.g hu b hb) (hnew u hu b hb)]
        exact q
  · exact CKs_of (fun a ha => lo a (by omega) (by omega) (by omega)) (fun a ha => f a (by omega) (by omega) (by omega) (by omega) (by omega) (by omega) (by omega) (by omega) (by omega)) (g 7 7 (by omega) (by omega) (by omega) (by omega) (by omega) (by omega) (by omega) (by omega) (by omega)) (g 1 8 (by omega) (by omega) (by omega) (by omega) (by omega) (by omega) (by omega) (by omega) (by omega)) (g 68 38 (by omega) (by omega) (by omega) (by omega) (by omega) (by omega) (by omega) (by omega) (by omega)) i5
  · exact CS_of (fun u k hu hk => g _ k (by omega) (by omega) (by omega) (by omega) (by omega) (by omega) (by omega) (by omega) (by omega)) (fun u hu => f _ (by omega) (by omega) (by omega) (by omega) (by omega) (by omega) (by omega) (by omega) (by omega)) (fun a ha => f a (by omega) (by omega) (by omega) (by omega) (by omega) (by omega) (by omega) (by omega) (by omega)) (g 68 42 (by omega) (by omega) (by omega) (by omega) (by omega) (by omega) (by omega) (by omega) (by omega)) (g 1 15 (by omega) (by omega) (by omega) (by omega) (by omega) (by omega) (by omega) (by omega) (by omega)) (g 1 7 (by omega) (by omega) (by omega) (by omega) (by omega) (by omega) (by omega) (by omega) (by omega)) i6
  · exact TW_of (g 14 4 (by omega) (by omega) (by omega) (by omega) (by omega) (by omega) (by omega) (by omega) (by omega)) (fun a ha => f a (by omega) (by omega) (by omega) (by omega) (by omega) (by omega) (by omega) (by omega) (by omega)) (g 68 33 (by omega) (by omega) (by omega) (by omega) (by omega) (by omega) (by omega) (by omega) (by omega)) (fun a ha => lo a (by omega) (by omega) (by omega)) i8
  · exact SC_of (by rw [rG 0 0 (by omega) (fun q => by omega), nwX_gr (by omega)]) (f 0 (by omega) (by omega) (by omega) (by omega) (by omega) (by omega) (by omega) (by omega) (by omega)) i9
theorem gfI_lt {r : Rw} (hr : okR r) : gfI r < 48 := by
  obtain ⟨v, hv, ev⟩ := hr.2.2.2.1
  obtain ⟨c, hc, ec⟩ := hr.2.2.2.2.1
  unfold gfI
  rw [ev, ec, nI_clamp (show v < 2 ^ 31 by omega), nI_clamp (show c < 2 ^ 31 by omega)]
  omega
theorem tl4 (σ : Sto) (r : Rw) (m : Int32) (p : Nat) : gi (tlA σ r m) 4 p = gi σ 4 p + (if gfI r = p then m else 0) := by
  unfold tlA
  rw [gi_si_k, if_neg (by omega), gi_si_k, if_neg (by omega), gi_si_k]
  by_cases e : p = gfI r
  · rw [if_pos ⟨rfl, e⟩, if_pos e.symm, e]
  · rw [if_neg (fun q => e q.2), if_neg (fun q => e q.symm), Int32.add_zero]
theorem tl5 (σ : Sto) (r : Rw) (m : Int32) (p : Nat) : gi (tlA σ r m) 5 p = gi σ 5 p + (if gfI r = p then rF r * m else 0) := by
  unfold tlA
  rw [gi_si_k, if_neg (by omega), gi_si_k]
  by_cases e : p = gfI r
  · rw [if_pos ⟨rfl, e⟩, if_pos e.symm, e]
  · rw [if_neg (fun q => e q.2), if_neg (fun q => e q.symm), Int32.add_zero, gi_si_k, if_neg (by omega)]
theorem tl6 (σ : Sto) (r : Rw) (m : Int32) (p j : Nat) (hj : j ≤ 30) : gi (tlA σ r m) 6 (31 * p + j) = gi σ 6 (31 * p + j) + (if gfI r = p ∧ stp r = j then m else 0) := by
  have := stp_le r
  unfold tlA
  rw [gi_si_k]
  by_cases e : gfI r = p ∧ stp r = j
  · rw [if_pos ⟨rfl, by omega⟩, if_pos e, e.1, e.2]
  · rw [if_neg (fun q => e (by omega)), if_neg e, Int32.add_zero, gi_si_k, if_neg (by omega), gi_si_k, if_neg (by omega)]
end
