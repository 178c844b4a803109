/-! the law: its loop, its start; written by gen_lawend.py -/
section
variable {N : Nat} {xs : Nat → Int32} {σ : Sto} {n d c s : Nat} {Q : Po}
theorem lw_len (h : SC σ N xs) : Int32.ofNat (aln σ 0) = nI N := by
  have e : aln σ 0 = N := by
    unfold aln scL
    rw [if_pos rfl, h.1]
    rfl
  rw [e]
  rfl
theorem lw_head {b : B3} (hI : IV N xs σ n) (hN : N ≤ 704) (hn : 11 * n + 11 ≤ N) (h : Ev b 168 33 [aR (some 0), aR (some 1), aR (some 68), aI (nI (11 * n))] [aI (xs (11 * n) &&& 31)] σ Q) : Ev b 168 18 [aR (some 0), aR (some 1), aR (some 68), aI (nI (11 * n))] [] σ Q := by
  obtain ⟨L, S, D, ol, pth, hi⟩ := hI
  have w := LR_of hi.sc hn hN
  have w1 : okX σ 0 (nI (11 * n)) := (w 0 (by decide)).1
  have w2 : gi σ 0 (nI (11 * n)).toNatClampNeg = xs (11 * n) := (w 0 (by decide)).2
  have hc : ¬ nI N - 11 < nI (11 * n) := fun q => by rw [lwC hN (by omega)] at q; omega
  rw [v_168_18, v_168_19, v_168_20, lw_len hi.sc]
  refine ⟨Or.inl rfl, ?_⟩
  rw [v_168_21, v_168_23, v_168_24]
  refine ⟨fun q => absurd q hc, fun _ => ?_⟩
  rw [v_168_27, v_168_28, v_168_29, w2]
  refine ⟨w1, ?_⟩
  rw [v_168_30, v_168_32]
  exact h
theorem lw_end {b : B3} (hI : IV N xs σ n) (hN : N ≤ 704) (hn : N < 11 * n + 11) (hn2 : n ≤ 64) : Ev b 168 18 [aR (some 0), aR (some 1), aR (some 68), aI (nI (11 * n))] [] σ (fun r _ => r = some (aI 1)) := by
  obtain ⟨L, S, D, ol, pth, hi⟩ := hI
  have hc : nI N - 11 < nI (11 * n) := (lwC hN (by omega)).mpr hn
  rw [v_168_18, v_168_19, v_168_20, lw_len hi.sc]
  refine ⟨Or.inl rfl, ?_⟩
  rw [v_168_21, v_168_23, v_168_24]
  refine ⟨fun _ => ?_, fun q => absurd hc q⟩
  rw [v_168_1201, v_168_1202]
  exact ⟨Or.inr rfl, rfl⟩
theorem lw_sw (hI : IV N xs σ n) (hN : N ≤ 704) (hn : 11 * n + 11 ≤ N) (h : ∀ σ2 c2 s2, c ≤ c2 → s ≤ s2 → IV N xs σ2 (n + 1) → Ev (d + 41, c2, s2) 168 1195 [aR (some 0), aR (some 1), aR (some 68), aI (nI (11 * n))] [] σ2 Q) : ∀ k, k < 27 → Ev (d + 41, c + 1, s + 12) 168 33 [aR (some 0), aR (some 1), aR (some 68), aI (nI (11 * n))] [aI (nI k)] σ Q
  | 0, _ => (v_168_33_0 _ _ _ _ _ _ _ _).mpr (lw_0 hI hN hn (fun σ2 q => h σ2 _ _ (Nat.le_refl _) (Nat.le_refl _) q))
  | 1, _ => (v_168_33_1 _ _ _ _ _ _ _ _).mpr (lw_1 hI hN hn (fun σ2 q => h σ2 _ _ (Nat.le_add_right ..) (Nat.le_add_right ..) q))
  | 2, _ => (v_168_33_2 _ _ _ _ _ _ _ _).mpr (lw_2 hI hN hn (fun σ2 q => h σ2 _ _ (Nat.le_add_right ..) (Nat.le_add_right ..) q))
  | 3, _ => (v_168_33_3 _ _ _ _ _ _ _ _).mpr (lw_3 hI hN hn (fun σ2 q => h σ2 _ _ (Nat.le_add_right ..) (Nat.le_add_right ..) q))
  | 4, _ => (v_168_33_4 _ _ _ _ _ _ _ _).mpr (lw_4 hI hN hn (fun σ2 q => h σ2 _ _ (Nat.le_add_right ..) (Nat.le_add_right ..) q))
  | 5, _ => (v_168_33_5 _ _ _ _ _ _ _ _).mpr (lw_5 hI hN hn (fun σ2 q => h σ2 _ _ (Nat.le_add_right ..) (Nat.le_add_right ..) q))
  | 6, _ => (v_168_33_6 _ _ _ _ _ _ _ _).mpr (lw_6 hI hN hn (fun σ2 q => h σ2 _ _ (Nat.le_add_right ..) (Nat.le_add_right ..) q))
  | 7, _ => (v_168_33_7 _ _ _ _ _ _ _ _).mpr (lw_7 hI hN hn (fun σ2 q => h σ2 _ _ (Nat.le_add_right ..) (Nat.le_add_right ..) q))
  | 8, _ => (v_168_33_8 _ _ _ _ _ _ _ _).mpr (lw_8 hI hN hn (fun σ2 q => h σ2 _ _ (Nat.le_add_right ..) (Nat.le_add_right ..) q))
  | 9, _ => (v_168_33_9 _ _ _ _ _ _ _ _).mpr (lw_9 hI hN hn (fun σ2 q => h σ2 _ _ (Nat.le_add_right ..) (Nat.le_add_right ..) q))
  | 10, _ => (v_168_33_10 _ _ _ _ _ _ _ _).mpr (lw_10 hI hN hn (fun σ2 q => h σ2 _ _ (Nat.le_add_right ..) (Nat.le_add_right ..) q))
  | 11, _ => (v_168_33_11 _ _ _ _ _ _ _ _).mpr (lw_11 hI hN hn (fun σ2 q => h σ2 _ _ (Nat.le_add_right ..) (Nat.le_add_right ..) q))
  | 12, _ => (v_168_33_12 _ _ _ _ _ _ _ _).mpr (lw_12 hI hN hn (fun σ2 q => h σ2 _ _ (Nat.le_add_right ..) (Nat.le_add_right ..) q))
  | 13, _ => (v_168_33_13 _ _ _ _ _ _ _ _).mpr (lw_13 hI hN hn (fun σ2 q => h σ2 _ _ (Nat.le_add_right ..) (Nat.le_add_right ..) q))
  | 14, _ => (v_168_33_14 _ _ _ _ _ _ _ _).mpr (lw_14 hI hN hn (fun σ2 q => h σ2 _ _ (Nat.le_add_right ..) (Nat.le_add_right ..) q))
  | 15, _ => (v_168_33_15 _ _ _ _ _ _ _ _).mpr (lw_15 hI hN hn (fun σ2 q => h σ2 _ _ (Nat.le_add_right ..) (Nat.le_add_right ..) q))
  | 16, _ => (v_168_33_16 _ _ _ _ _ _ _ _).mpr (lw_16 hI hN hn (fun σ2 q => h σ2 _ _ (Nat.le_add_right ..) (Nat.le_add_right ..) q))
  | 17, _ => (v_168_33_17 _ _ _ _ _ _ _ _).mpr (lw_17 hI hN hn (fun σ2 q => h σ2 _ _ (Nat.le_add_right ..) (Nat.le_add_right ..) q))
  | 18, _ => (v_168_33_18 _ _ _ _ _ _ _ _).mpr (lw_18 hI hN hn (fun σ2 q => h σ2 _ _ (Nat.le_add_right ..) (Nat.le_add_right ..) q))
  | 19, _ => (v_168_33_19 _ _ _ _ _ _ _ _).mpr (lw_19 hI hN hn (fun σ2 q => h σ2 _ _ (Nat.le_add_right ..) (Nat.le_add_right ..) q))
  | 20, _ => (v_168_33_20 _ _ _ _ _ _ _ _).mpr (lw_20 hI hN hn (fun σ2 q => h σ2 _ _ (Nat.le_add_right ..) (Nat.le_add_right ..) q))
  | 21, _ => (v_168_33_21 _ _ _ _ _ _ _ _).mpr (lw_21 hI hN hn (fun σ2 q => h σ2 _ _ (Nat.le_add_right ..) (Nat.le_add_right ..) q))
  | 22, _ => (v_168_33_22 _ _ _ _ _ _ _ _).mpr (lw_22 hI hN hn (fun σ2 q => h σ2 _ _ (Nat.le_add_right ..) (Nat.le_add_right ..) q))
  | 23, _ => (v_168_33_23 _ _ _ _ _ _ _ _).mpr (lw_23 hI hN hn (fun σ2 q => h σ2 _ _ (Nat.le_add_right ..) (Nat.le_add_right ..) q))
  | 24, _ => (v_168_33_24 _ _ _ _ _ _ _ _).mpr (lw_24 hI hN hn (fun σ2 q => h σ2 _ _ (Nat.le_add_right ..) (Nat.le_add_right ..) q))
  | 25, _ => (v_168_33_25 _ _ _ _ _ _ _ _).mpr (lw_25 hI hN hn (fun σ2 q => h σ2 _ _ (Nat.le_add_right ..) (Nat.le_add_right ..) q))
  | 26, _ => (v_168_33_26 _ _ _ _ _ _ _ _).mpr (lw_26 hI hN hn (fun σ2 q => h σ2 _ _ (Nat.le_add_right ..) (Nat.le_add_right ..) q))
  | k + 27, hk => absurd hk (by omega)
theorem lw_go (hN : N ≤ 704) : ∀ (m n c s : Nat) (σ : Sto), n + m = 64 → m ≤ c → 12 * m ≤ s → IV N xs σ n → Ev (59 + 41, c, s) 168 18 [aR (some 0), aR (some 1), aR (some 68), aI (nI (11 * n))] [] σ (fun r _ => r = some (aI 1))
  | 0, n, c, s, σ, hm, hc, hs, hI => lw_end hI hN (by omega) (by omega)
  | m + 1, n, c, s, σ, hm, hc, hs, hI => by
    by_cases hn : 11 * n + 11 ≤ N
    · obtain ⟨c1, rfl⟩ : ∃ c1, c = c1 + 1 := ⟨c - 1, by omega⟩
      obtain ⟨s1, rfl⟩ : ∃ s1, s = s1 + 12 := ⟨s - 12, by omega⟩
      have hg : ∀ σ2 c2 s2, c1 ≤ c2 → s1 ≤ s2 → IV N xs σ2 (n + 1) → Ev (59 + 41, c2, s2) 168 1195 [aR (some 0), aR (some 1), aR (some 68), aI (nI (11 * n))] [] σ2 (fun r _ => r = some (aI 1)) := by
        intro σ2 c2 s2 h1 h2 q
        rw [v_168_1195, v_168_1198, iK11]
        exact lw_go hN m (n + 1) c2 s2 σ2 (by omega) (by omega) (by omega) q
      refine lw_head hI hN hn ?_
      rcases lwS (xs (11 * n) &&& 31) with ⟨k, hk, e⟩ | e
      · rw [e]
        exact lw_sw hI hN hn hg k hk
      · rw [v_168_33_d _ _ _ _ _ _ _ e]
        obtain ⟨L, S, D, ol, pth, hi⟩ := hI
        exact hg σ _ _ (Nat.le_add_right ..) (Nat.le_add_right ..) (hi.iv (by omega))
    · exact lw_end hI hN (by omega) (by omega)
end
/-- where the law begins: nothing but the script -/
def sig0 (L : Nat) (xs : Nat → Int32) : Sto := (1, fun a j => if a = 0 then xs j else 0, fun _ _ => 0, fun a j => if a = 0 ∧ j = 0 then some L else none)
theorem law_ev (L : Nat) (xs : Nat → Int32) (hL : L ≤ 704) : Ev (100, 600000, 7302250) 168 0 [aR (some 0), aU, aU, aU] [] (sig0 L xs) (fun r _ => r = some (aI 1)) := by
  have r0 : Rep (sig0 L xs) 1 (fun a j => if a = 0 then xs j else 0) (fun a j => if a = 0 ∧ j = 0 then some L else none) := rfl
  have b0 : Bl 1 (fun a j => if a = 0 then xs j else 0) (fun a j => if a = 0 ∧ j = 0 then some L else none) := fun a ha => ⟨funext fun j => if_neg (by omega), funext fun j => if_neg (by omega)⟩
  have f1 : ∀ j, (fun a j => if a = 0 then xs j else 0) 0 j = xs j := fun j => if_pos rfl
  have f2 : ∀ a j, a ≠ 0 → (fun a j => if a = 0 then xs j else 0) a j = 0 := fun a j ha => if_neg ha
  have g1 : (fun a j => if a = 0 ∧ j = 0 then some L else none) 0 0 = some L := if_pos ⟨rfl, rfl⟩
  have g2 : ∀ a j, a ≠ 0 → (fun a j => if a = 0 ∧ j = 0 then some L else none) a j = none := fun a j ha => if_neg (fun q => ha q.1)
  generalize (fun a j => if a = 0 then xs j else 0 : Nat → Nat → Int32) = f at r0 b0 f1 f2
  generalize (fun a j => if a = 0 ∧ j = 0 then some L else none : Nat → Nat → Option Nat) = g at r0 b0 g1 g2
  have k1 : kd 1 = (5, 16) := by decide
  have k2 : kd 68 = (6, 45) := by decide
  rw [v_168_0, r0.s, k1]
  refine ⟨by decide, by decide, rfl, ?_⟩
  rw [v_168_3]
  show Ev (97 + 2 + 1, 599933 + 66, 7298629 + 3605) 168 4 _ _ _ _
  rw [v_168_4]
  refine C_post (r0.al b0) b0.s (fun σ1 r1 b1 => ?_)
  rw [v_168_7, v_168_8, r1.s, k2]
  refine ⟨by decide, by decide, rfl, ?_⟩
  rw [v_168_11]
  show Ev (98 + 1 + 1, 599898 + 34, 7284396 + 14188) 168 12 _ _ _ _
  rw [v_168_12]
  refine C_model (r1.al b1) b1.s (fun σ2 r2 b2 => ?_)
  rw [v_168_15, v_168_16, v_168_17]
  exact lw_go hL 64 0 _ _ σ2 rfl (by decide) (by decide) (IV_0 r2 f1 f2 g1 g2)
