/-! both: check, put, slow, quota, way -/
theorem dnF_fnd (c : Nat → Bool) : ∀ (n : Nat) (f : Int32), dnF c n f = match fnd c 0 n with
    | none => f
    | some k => nI k
  | 0, _ => rfl
  | n + 1, f => by
    rw [dnF, dnF_fnd c n, fnd_split n 1 0, Nat.zero_add]
    cases fnd c 0 n with
    | some k => rfl
    | none =>
      simp only [Option.none_or, fnd]
      cases c n <;> rfl
theorem fnd_congr {q r : Nat → Bool} : ∀ (m k : Nat), (∀ c, c < k + m → q c = r c) → fnd q k m = fnd r k m
  | 0, _, _ => rfl
  | m + 1, k, h => by rw [fnd, fnd, h k (by omega), fnd_congr m (k + 1) (fun c hc => h c (by omega))]
section
variable {N : Nat} {xs : Nat → Int32} {σ σ' : Sto} {n d : Nat} {L : Nat → List Nat} {S : Nat} {D : List Rw} {ol : List Nat} {pth : Nat → List Int32}
theorem op_check (h : INV N xs σ n L S D ol pth) (hn : n < 64) : CI (d + 40) 73 [aR (some 1)] σ (fun a σ1 => CI (d + 40) 139 [aR (some 68)] σ1 (fun b σ2 => a = b ∧ IV N xs σ2 (n + 1))) := by
  refine X_check h.1.1 (fun σ1 σ2 hq hI1 hy hI2 z7 zz => ?_)
  have h1 := h.x hq hI1
  obtain ⟨k1, k2, k3, k4, k5, k6⟩ := h1.2.2.1
  have hM2 : MB σ2 S := MB_of (Nat.le_of_eq hy.1.symm) (hy.2.2.1 68 0 (by omega) (by omega)) (by rw [hy.2.1]) h1.1.2.1
  have em : rwM σ2 = rwM σ1 := by
    funext k
    unfold rwM
    rw [hy.2.2.1 69 k (by omega) (by omega), hy.2.2.1 70 k (by omega) (by omega), hy.2.2.1 71 k (by omega) (by omega), hy.2.2.1 72 k (by omega) (by omega), hy.2.2.1 73 k (by omega) (by omega), hy.2.2.1 74 k (by omega) (by omega), hy.2.2.1 75 k (by omega) (by omega), hy.2.2.2 76 (by omega), hy.2.2.2 77 (by omega)]
  refine M_check hM2 (fun k hk => by rw [em]; exact h1.v k hk) (fun σ3 σ4 hs ht z4 => ⟨?_, ?_⟩)
  · rw [dnF_fnd]
    have e : fnd (ckB (bdA σ2 S) (gl σ2 87)) 0 36 = fnd (ckB (bdX σ L) (gl σ 12)) 0 36 := fnd_congr 36 0 (fun c hc => by
      unfold ckB
      rw [bdA_of em, bdA_of hq.qq.m, h.bd, hy.2.2.2 87 (by omega), hq.qq.2.2.2.1 87 (by unfold scl; omega)]
      obtain ⟨-, -, q3, -⟩ := h.2.2.1
      rw [(q3 (c / 6) (by omega)).1, (q3 (c % 6) (by omega)).1])
    rw [e]
    cases fnd (ckB (bdX σ L) (gl σ 12)) 0 36 <;> rfl
  · have gF : ∀ a k, a ≠ 13 → ¬ (a = 7 ∧ k = 7) → a ≠ 83 → a ≠ 84 → a ≠ 88 → gi σ4 a k = gi σ1 a k := fun a k e1 e2 e3 e4 e5 => by
      rw [ht.2.2.1 a e5, hs.2.2.1 a e3 e4]; exact hy.2.2.1 a k e1 e2
    have lF : ∀ a, a ≠ 12 → a ≠ 81 → a ≠ 82 → a ≠ 87 → gl σ4 a = gl σ1 a := fun a e1 e2 e3 e4 => by
      rw [ht.2.2.2 a e4, hs.2.2.2 a e2 e3]; exact hy.2.2.2 a e1
    have gr4 : gr σ4 = gr σ1 := by rw [ht.2.1, hs.2.1, hy.2.1]
    have sn4 : sn σ4 = sn σ1 := by rw [ht.1, hs.1, hy.1]
    have g7 : gi σ4 7 7 = 0 := by rw [ht.2.2.1 7 (by omega), hs.2.2.1 7 (by omega) (by omega)]; exact z7
    have g13 : ∀ j, j < 6 → gi σ4 13 j = 0 := fun j hj => by rw [ht.2.2.1 13 (by omega), hs.2.2.1 13 (by omega) (by omega)]; exact (zz j hj).2
    have l12 : ∀ j, j < 6 → gl σ4 12 j = 0 := fun j hj => by rw [ht.2.2.2 12 (by omega), hs.2.2.2 12 (by omega) (by omega)]; exact (zz j hj).1
    refine INV.iv (L := L) (S := S) (D := D) (ol := ol) (pth := pth) (h1.fr ?_ ?_ (fun b k hk => gF b k (by unfold kc at hk; omega) (by unfold kc at hk; omega) (by unfold kc at hk; omega) (by unfold kc at hk; omega) (by unfold kc at hk; omega)) (fun b hb => lF b (by omega) (by omega) (by omega) (by omega)) (by rw [gr4]) ?_ ?_) hn
    · refine hI1.of sn4 gr4 (fun b hb => ⟨funext fun k => gF b k (by omega) (by omega) (by omega) (by omega) (by omega), lF b (by omega) (by omega) (by omega) (by omega)⟩) (fun u hu => ⟨gF _ _ (by omega) (by omega) (by omega) (by omega) (by omega), gF _ _ (by omega) (by omega) (by omega) (by omega) (by omega)⟩) ?_
      rw [gF 7 6 (by omega) (by omega) (by omega) (by omega) (by omega)]
      rcases hI1.2.2.2 with q | q
      · exact Or.inl q
      · exact Or.inr ⟨q.1, KN_of (lF 8 (by omega) (by omega) (by omega) (by omega)) (lF 9 (by omega) (by omega) (by omega) (by omega)) (gF 7 4 (by omega) (by omega) (by omega) (by omega) (by omega)) (gF 7 5 (by omega) (by omega) (by omega) (by omega) (by omega)) (funext fun k => gF 11 k (by omega) (by omega) (by omega) (by omega) (by omega)) q.2⟩
    · exact MB_of (Nat.le_of_eq sn4.symm) (gF 68 0 (by omega) (by omega) (by omega) (by omega) (by omega)) (by rw [gr4]) h1.1.2.1
    · refine ⟨by rw [lF 10 (by omega) (by omega) (by omega) (by omega), lF 86 (by omega) (by omega) (by omega) (by omega)]; exact k1, by rw [lF 10 (by omega) (by omega) (by omega) (by omega)]; exact k2, fun j hj => ⟨?_, ?_, ?_⟩, ?_, ?_, ?_⟩
      · rw [l12 j hj, (z4 j hj).1]
      · rw [g13 j hj, (z4 j hj).2]
      · exact Or.inl (z4 j hj).2
      · rw [g7]
        have : cnt (fun k => decide (¬ gi σ4 88 k = 0)) 0 6 = 0 := (cnt_congr 6 0 (q := fun _ => false) (fun j _ hj => by rw [(z4 j (by omega)).2]; decide)).trans (cnt_zero 6 0)
        rw [this]; rfl
      · rw [show gi σ4 26 = gi σ1 26 from funext fun k => gF 26 k (by omega) (by omega) (by omega) (by omega) (by omega), show gi σ4 97 = gi σ1 97 from funext fun k => gF 97 k (by omega) (by omega) (by omega) (by omega) (by omega)]
        exact k5
      · rw [gF 1 8 (by omega) (by omega) (by omega) (by omega) (by omega), gF 68 38 (by omega) (by omega) (by omega) (by omega) (by omega)]; exact k6
    · exact TW_of (gF 14 4 (by omega) (by omega) (by omega) (by omega) (by omega)) (fun b hb => funext fun k => gF b k (by omega) (by omega) (by omega) (by omega) (by omega)) (gF 68 33 (by omega) (by omega) (by omega) (by omega) (by omega)) (fun b hb => lF b (by omega) (by omega) (by omega) (by omega)) h1.2.2.2.2.2.1
theorem op_put (h : INV N xs σ n L S D ol pth) (hn : n < 64) : CI (d + 40) 70 [aR (some 1)] σ (fun a σ1 => CI (d + 40) 135 [aR (some 68)] σ1 (fun b σ2 => a = b ∧ IV N xs σ2 (n + 1))) := by
  refine X_put h.1.1 (fun hag σ1 hq hI1 => ?_) (fun hag σ1 σ2 hq hI1 hz hI2 hg => ?_)
  · have h1 := h.x hq hI1
    have eb : bdA σ1 S = bdX σ L := by rw [bdA_of hq.qq.m, h.bd]
    refine M_put h1.1.2.1 h1.v (fun _ σ2 hs => ⟨rfl, (h1.m (MQs.c4 hs)).iv hn⟩) (fun q => ?_)
    rw [eb, hag] at q
    cases q
  · have h1 := h.x hq hI1
    obtain ⟨k1, k2, k3, k4, k5, k6⟩ := h1.2.2.1
    have em : rwM σ2 = rwM σ1 := by
      funext k
      unfold rwM
      rw [hz.2.2.1, hz.2.2.2 76 (by omega), hz.2.2.2 77 (by omega)]
    have eb : bdA σ2 S = bdX σ L := by rw [bdA_of em, bdA_of hq.qq.m, h.bd]
    have hM2 : MB σ2 S := MB_of (Nat.le_of_eq hz.1.symm) (by rw [hz.2.2.1]) (by rw [hz.2.1]) h1.1.2.1
    have e86 : gl σ2 86 = gl σ 10 := by
      rw [hz.2.2.2 86 (by omega), ← k1]
      exact hq.mv
    obtain ⟨p1, p2⟩ := an_put h.1.1.bn hag (gl σ 10)
    refine M_put hM2 (fun k hk => by rw [em]; exact h1.v k hk) (fun q => ?_) (fun _ σ3 σ4 hs ht he => ?_)
    · rw [eb, hag] at q; cases q
    · rw [eb, e86] at he ⊢
      refine ⟨by rw [p1], ?_⟩
      have gF : ∀ a, a ≠ 83 → a ≠ 84 → gi σ4 a = gi σ1 a := fun a e1 e2 => by
        rw [ht.2.2.1, hs.2.2.1 a e1 e2, hz.2.2.1]
      have lF : ∀ a, a ≠ 10 → a ≠ 81 → a ≠ 82 → a ≠ 86 → gl σ4 a = gl σ1 a := fun a e1 e2 e3 e4 => by
        rw [ht.2.2.2 a e4, hs.2.2.2 a e2 e3, hz.2.2.2 a e1]
      have l10 : gl σ4 10 = (itr (npX (fwA (bdX σ L))) 0 6 (gl σ 10, 0)).1 := by
        rw [ht.2.2.2 10 (by omega), hs.2.2.2 10 (by omega) (by omega)]; exact hg
      have gr4 : gr σ4 = gr σ1 := by rw [ht.2.1, hs.2.1, hz.2.1]
      have sn4 : sn σ4 = sn σ1 := by rw [ht.1, hs.1, hz.1]
      refine INV.iv (L := L) (S := S) (D := D) (ol := ol) (pth := pth) (h1.fr ?_ ?_ (fun b k hk => by rw [gF b (by unfold kc at hk; omega) (by unfold kc at hk; omega)]) (fun b hb => lF b (by omega) (by omega) (by omega) (by omega)) (by rw [gr4]) ?_ ?_) hn
      · refine hI1.of sn4 gr4 (fun b hb => ⟨gF b (by omega) (by omega), lF b (by omega) (by omega) (by omega) (by omega)⟩) (fun u hu => by rw [gF _ (by omega) (by omega)]; exact ⟨rfl, rfl⟩) ?_
        rw [gF 7 (by omega) (by omega)]
        rcases hI1.2.2.2 with q | q
        · exact Or.inl q
        · exact Or.inr ⟨q.1, KN_of (lF 8 (by omega) (by omega) (by omega) (by omega)) (lF 9 (by omega) (by omega) (by omega) (by omega)) (by rw [gF 7 (by omega) (by omega)]) (by rw [gF 7 (by omega) (by omega)]) (gF 11 (by omega) (by omega)) q.2⟩
      · exact MB_of (Nat.le_of_eq sn4.symm) (by rw [gF 68 (by omega) (by omega)]) (by rw [gr4]) h1.1.2.1
      · refine ⟨by rw [l10, he, p1], by rw [l10]; exact p2, fun j hj => ?_, ?_, ?_, ?_⟩
        · rw [lF 12 (by omega) (by omega) (by omega) (by omega), lF 87 (by omega) (by omega) (by omega) (by omega), gF 13 (by omega) (by omega), gF 88 (by omega) (by omega)]; exact k3 j hj
        · rw [gF 7 (by omega) (by omega), gF 88 (by omega) (by omega)]; exact k4
        · rw [gF 26 (by omega) (by omega), gF 97 (by omega) (by omega)]; exact k5
        · rw [gF 1 (by omega) (by omega), gF 68 (by omega) (by omega)]; exact k6
      · exact TW_of (by rw [gF 14 (by omega) (by omega)]) (fun b hb => gF b (by omega) (by omega)) (by rw [gF 68 (by omega) (by omega)]) (fun b hb => lF b (by omega) (by omega) (by omega) (by omega)) h1.2.2.2.2.2.1
/-- two ints written, one on either side -/
theorem INV.si2 (h : INV N xs σ n L S D ol pth) {a k b j : Nat} {v w : Int32} (h1 : (a = 26 ∧ b = 97) ∨ (a = 1 ∧ k = 8 ∧ b = 68 ∧ j = 38)) (hC : CKs (si (si σ a k v) b j w)) : INV N xs (si (si σ a k v) b j w) n L S D ol pth := by
  have gF : ∀ c i, ¬ (c = a ∧ i = k) → ¬ (c = b ∧ i = j) → gi (si (si σ a k v) b j w) c i = gi σ c i := fun c i e1 e2 => by
    rw [gi_si_k, if_neg e2, gi_si_k, if_neg e1]
  refine h.fr ?_ ?_ (fun c i hk => gF c i (by unfold kc at hk; omega) (by unfold kc at hk; omega)) (fun b hb => rfl) rfl hC ?_
  · refine h.1.1.of rfl rfl (fun c hc => ⟨funext fun i => gF c i (by omega) (by omega), rfl⟩) (fun u hu => ⟨gF _ _ (by omega) (by omega), gF _ _ (by omega) (by omega)⟩) ?_
    rw [gF 7 6 (by omega) (by omega)]
    rcases h.1.1.2.2.2 with q | q
    · exact Or.inl q
    · exact Or.inr ⟨q.1, KN_of (σ := σ) rfl rfl (gF 7 4 (by omega) (by omega)) (gF 7 5 (by omega) (by omega)) (funext fun i => gF 11 i (by omega) (by omega)) q.2⟩
  · exact MB_of (σ := σ) (Nat.le_refl _) (gF 68 0 (by omega) (by omega)) rfl h.1.2.1
  · exact TW_of (gF 14 4 (by omega) (by omega)) (fun c hc => funext fun i => gF c i (by omega) (by omega)) (gF 68 33 (by omega) (by omega)) (fun c hc => rfl) h.2.2.2.2.2.1
theorem op_slow (h : INV N xs σ n L S D ol pth) (hn : n < 64) (a x : Int32) : CI (d + 40) 77 [aR (some 1), aI a, aI x] σ (fun a1 σ1 => CI (d + 40) 149 [aR (some 68), aI a, aI x] σ1 (fun b σ2 => a1 = b ∧ IV N xs σ2 (n + 1))) := by
  obtain ⟨k1, k2, k3, k4, k5, k6⟩ := h.2.2.1
  refine X_slow h.1.1.xb (fun c => ?_) (fun c1 c2 => ?_) (fun j hj e c1 c2 => ?_)
  · refine M_slow h.1.2.1 (fun _ => ⟨rfl, h.iv hn⟩) (fun c1 => absurd c c1) (fun j hj e => ?_)
    subst e
    rcases c with q | q
    · exact absurd q (in8 hj).1
    · exact absurd q (in8 hj).2
  · refine M_slow h.1.2.1 (fun q => absurd q c1) (fun _ _ => ⟨rfl, h.iv hn⟩) (fun j hj e g1 g2 => ?_)
    rcases c2 with q | q
    · exact absurd q g1
    · exact absurd q g2
  · subst e
    have hM : MB (si σ 26 j x) S := MB_of (σ := σ) (Nat.le_refl _) (by rw [gi_si_k, if_neg (by omega)]) rfl h.1.2.1
    refine M_slow hM (fun q => ?_) (fun _ q => ?_) (fun i hi e g1 g2 => ?_)
    · rcases q with q | q
      · exact absurd q (in8 hj).1
      · exact absurd q (in8 hj).2
    · rcases q with q | q
      · exact absurd q c1
      · exact absurd q c2
    · have ei : j = i := (nI_eq (by omega) (by omega)).mp e
      subst ei
      refine ⟨by rw [gi_si_k, if_neg (by omega), k5], INV.iv (h.si2 (Or.inl ⟨rfl, rfl⟩) ?_) hn⟩
      have gF : ∀ c i, c ≠ 26 → c ≠ 97 → gi (si (si σ 26 j x) 97 j x) c i = gi σ c i := fun c i e1 e2 => by
        rw [gi_si_k, if_neg (fun q => e2 q.1), gi_si_k, if_neg (fun q => e1 q.1)]
      refine ⟨k1, k2, fun i hi => ?_, ?_, ?_, ?_⟩
      · rw [gF 13 i (by omega) (by omega), gF 88 i (by omega) (by omega)]; exact k3 i hi
      · rw [gF 7 7 (by omega) (by omega), show gi (si (si σ 26 j x) 97 j x) 88 = gi σ 88 from funext fun i => gF 88 i (by omega) (by omega)]; exact k4
      · funext i
        rw [gi_si_k, if_neg (by omega), gi_si_k, gi_si_k]
        by_cases q : i = j
        · rw [if_pos ⟨rfl, q⟩, if_pos ⟨rfl, q⟩]
        · rw [if_neg (fun g => q g.2), if_neg (fun g => q g.2), gi_si_k, if_neg (by omega), k5]
      · rw [gF 1 8 (by omega) (by omega), gF 68 38 (by omega) (by omega)]; exact k6
theorem op_quota (h : INV N xs σ n L S D ol pth) (hn : n < 64) (x : Int32) : CI (d + 40) 78 [aR (some 1), aI x] σ (fun a1 σ1 => CI (d + 40) 150 [aR (some 68), aI x] σ1 (fun b σ2 => a1 = b ∧ IV N xs σ2 (n + 1))) := by
  obtain ⟨k1, k2, k3, k4, k5, k6⟩ := h.2.2.1
  refine X_quota h.1.1.xb (fun c => ?_) (fun c1 c2 => ?_)
  · refine M_quota h.1.2.1 (fun _ => ⟨rfl, h.iv hn⟩) (fun g1 g2 => ?_)
    rcases c with q | q
    · exact absurd q g1
    · exact absurd q g2
  · have hM : MB (si σ 1 8 x) S := MB_of (σ := σ) (Nat.le_refl _) (by rw [gi_si_k, if_neg (by omega)]) rfl h.1.2.1
    refine M_quota hM (fun q => ?_) (fun _ _ => ?_)
    · rcases q with q | q
      · exact absurd q c1
      · exact absurd q c2
    · refine ⟨by rw [gi_si_k, if_neg (by omega), k6], INV.iv (h.si2 (Or.inr ⟨rfl, rfl, rfl, rfl⟩) ?_) hn⟩
      have gF : ∀ c i, ¬ (c = 1 ∧ i = 8) → ¬ (c = 68 ∧ i = 38) → gi (si (si σ 1 8 x) 68 38 x) c i = gi σ c i := fun c i e1 e2 => by
        rw [gi_si_k, if_neg e2, gi_si_k, if_neg e1]
      refine ⟨k1, k2, fun i hi => ?_, ?_, ?_, ?_⟩
      · rw [gF 13 i (by omega) (by omega), gF 88 i (by omega) (by omega)]; exact k3 i hi
      · rw [gF 7 7 (by omega) (by omega), show gi (si (si σ 1 8 x) 68 38 x) 88 = gi σ 88 from funext fun i => gF 88 i (by omega) (by omega)]; exact k4
      · rw [show gi (si (si σ 1 8 x) 68 38 x) 26 = gi σ 26 from funext fun i => gF 26 i (by omega) (by omega), show gi (si (si σ 1 8 x) 68 38 x) 97 = gi σ 97 from funext fun i => gF 97 i (by omega) (by omega)]; exact k5
      · rw [gi_si_k, if_neg (by omega), gi_si_k, if_pos ⟨rfl, rfl⟩, gi_si_k, if_pos ⟨rfl, rfl⟩]
theorem op_way (h : INV N xs σ n L S D ol pth) (hn : n < 64) (x i : Int32) : CI (d + 40) 74 [aR (some 1), aI x, aI i] σ (fun a σ1 => CI (d + 40) 146 [aR (some 68), aI x, aI i] σ1 (fun b σ2 => a = b ∧ IV N xs σ2 (n + 1))) := by
  have hMm : ∀ σ1, INV N xs σ1 n L S D ol pth → mvB (gl σ1 86) := fun σ1 h1 => by rw [← h1.2.2.1.1]; exact h1.2.2.1.2.1
  refine X_way h.1.1 h.2.2.1.2.1 h.wk (fun c => ?_) (fun t ht e => ⟨fun hr σ1 hq hI1 => ?_, fun a lw hr ha hw1 hw2 σ1 σ2 hq hI1 hf hI2 hY => ?_⟩)
  · exact M_way (n := 30) h.1.2.1 h.1.2.2.1 (hMm σ h) (by omega) h.wm (fun _ => ⟨rfl, h.iv hn⟩) (fun c1 c2 => by rcases c with q | q; exact absurd q c1; exact absurd q c2) (fun c1 c2 => by rcases c with q | q; exact absurd q c1; exact absurd q c2)
  · subst e
    have h1 := h.x hq hI1
    have er := hq.qq.m
    obtain ⟨J, hJ⟩ := h.tc ht
    refine M_way (n := 30) h1.1.2.1 h1.1.2.2.1 (hMm σ1 h1) (by omega) h1.wm (fun c => ?_) (fun _ _ _ v => ⟨rfl, (h1.m (MQs.d σ1 v)).iv hn⟩) (fun _ _ r l hg => ?_)
    · rcases c with q | q
      · exact absurd q (in20 ht).1
      · exact absurd q (in20 ht).2
    · rw [raB_of er] at hg
      rcases hJ.root (h.so ht) (h.le ht) i with ⟨g1, g2⟩ | ⟨k, b, g1, g2, g3⟩
      · rw [g1] at hg; cases hg
      · rw [hr] at g2; cases g2
  · subst e
    have h1 := h.x hq hI1
    obtain ⟨J, hJ⟩ := h.tc ht
    have em : rwM σ2 = rwM σ1 := by
      funext k
      unfold rwM
      rw [hf.2.2.1 69 k (by omega) (by omega) (by omega), hf.2.2.1 70 k (by omega) (by omega) (by omega), hf.2.2.1 71 k (by omega) (by omega) (by omega), hf.2.2.1 72 k (by omega) (by omega) (by omega), hf.2.2.1 73 k (by omega) (by omega) (by omega), hf.2.2.1 74 k (by omega) (by omega) (by omega), hf.2.2.1 75 k (by omega) (by omega) (by omega), hf.2.2.2 76 (by omega) (by omega) (by omega), hf.2.2.2 77 (by omega) (by omega) (by omega)]
    have er : rwM σ2 = rwM σ := em.trans hq.qq.m
    have e86 : gl σ2 86 = gl σ 86 := (hf.2.2.2 86 (by omega) (by omega) (by omega)).trans (hq.qq.2.2.2.1 86 (by unfold scl; omega))
    have hM2 : MB σ2 S := MB_of (Nat.le_of_eq hf.1.symm) (hf.2.2.1 68 0 (by omega) (by omega) (by omega)) (by rw [hf.2.1]) h1.1.2.1
    rcases hJ.root (h.so ht) (h.le ht) i with ⟨g1, g2⟩ | ⟨k, b, g1, g2, g3⟩
    · rw [hr] at g2; cases g2
    · rw [hr] at g2; cases g2
      rw [h.2.2.1.1] at hw1
      obtain ⟨lm, w1, w2, w3⟩ := hJ.wk (h.nd ht) g3 hw1
      refine M_way (n := 30) hM2 (fun k hk => by rw [er]; exact h.1.2.2.1 k hk) (by rw [e86]; exact hMm σ h) (by omega) (fun r hr => by rw [wkM_of' er e86]; exact h.wm r hr) (fun c => ?_) (fun _ _ q => ?_) (fun _ _ r l hg hrS hl σ3 hv hT => ?_)
      · rcases c with q | q
        · exact absurd q (in20 ht).1
        · exact absurd q (in20 ht).2
      · rw [raB_of er, g1] at q; cases q
      · rw [raB_of er, g1] at hg; cases hg
        rw [wkM_of' er e86, w1] at hl; cases hl
        refine ⟨by rw [len_of w2], ?_⟩
        have gF : ∀ a k, ¬ (a = 14 ∧ k = 4) → a ≠ 15 → a ≠ 16 → ¬ (a = 68 ∧ (k = 18 ∨ k = 27 ∨ k = 33)) → a ≠ 89 → a ≠ 92 → a ≠ 94 → gi σ3 a k = gi σ1 a k := fun a k e1 e2 e3 e4 e5 e6 e7 => by
          have q : gi σ3 a k = gi σ2 a k := by
            by_cases e : a = 68
            · subst e; exact hv.2.2.2.1 k (by omega) (by omega) (by omega)
            · rw [hv.2.2.1 a e e5 e6 e7]
          rw [q]; exact hf.2.2.1 a k e1 e2 e3
        have lF : ∀ a, a ≠ 17 → a ≠ 18 → a ≠ 19 → a ≠ 90 → a ≠ 91 → a ≠ 93 → a ≠ 95 → a ≠ 96 → gl σ3 a = gl σ1 a := fun a e1 e2 e3 e4 e5 e6 e7 e8 => by
          rw [hv.2.2.2.2 a e4 e5 e6 e7 e8]; exact hf.2.2.2 a e1 e2 e3
        have gr4 : gr σ3 = gr σ1 := by rw [hv.2.1, hf.2.1]
        have sn4 : sn σ3 = sn σ1 := by rw [hv.1, hf.1]
        refine INV.iv (L := L) (S := S) (D := D) (ol := ol) (pth := pth) (h1.fr ?_ ?_ (fun b k hk => gF b k (by unfold kc at hk; omega) (by unfold kc at hk; omega) (by unfold kc at hk; omega) (by unfold kc at hk; omega) (by unfold kc at hk; omega) (by unfold kc at hk; omega) (by unfold kc at hk; omega)) (fun b hb => lF b (by omega) (by omega) (by omega) (by omega) (by omega) (by omega) (by omega) (by omega)) (by rw [gr4]) ?_ ?_) hn
        · exact hI2.m hv.1 hv.2.1 (fun a k ha => by rw [hv.2.2.1 a (by omega) (by omega) (by omega) (by omega)]) (fun a ha => hv.2.2.2.2 a (by omega) (by omega) (by omega) (by omega) (by omega))
        · exact MB_of (Nat.le_of_eq sn4.symm) (gF 68 0 (by omega) (by omega) (by omega) (by omega) (by omega) (by omega) (by omega)) (by rw [gr4]) h1.1.2.1
        · exact CKs_of (fun a ha => lF a (by omega) (by omega) (by omega) (by omega) (by omega) (by omega) (by omega) (by omega)) (fun a ha => funext fun k => gF a k (by omega) (by omega) (by omega) (by omega) (by omega) (by omega) (by omega)) (gF 7 7 (by omega) (by omega) (by omega) (by omega) (by omega) (by omega) (by omega)) (gF 1 8 (by omega) (by omega) (by omega) (by omega) (by omega) (by omega) (by omega)) (gF 68 38 (by omega) (by omega) (by omega) (by omega) (by omega) (by omega) (by omega)) h1.2.2.1
        · refine ⟨lw.map (ptX0 σ), ⟨?_, fun j q hq => ?_⟩, by rw [List.length_map]; exact hw2, ?_⟩
          · rw [hv.2.2.1 14 (by omega) (by omega) (by omega) (by omega)]; exact hY.1
          · rw [hv.2.2.1 (14 + 1) (by omega) (by omega) (by omega) (by omega), hv.2.2.1 (14 + 2) (by omega) (by omega) (by omega) (by omega), hv.2.2.2.2 (14 + 3) (by omega) (by omega) (by omega) (by omega) (by omega), hv.2.2.2.2 (14 + 4) (by omega) (by omega) (by omega) (by omega) (by omega)]
            exact hY.2 j q hq
          · rw [← an_told w2]
            rw [er] at hT
            exact hT
end
