/-! the start: what holds of both -/
section
variable {α : Type} {h : Nat → Nat → α} {a k x y : Nat} {v : α}
theorem up2_na (hx : x ≠ a) : up2 h a k v x = h x := by
  unfold up2
  rw [if_neg hx]
theorem up2_n (hx : ¬ (x = a ∧ y = k)) : up2 h a k v x y = h x y := by
  unfold up2 up1
  by_cases e : x = a
  · rw [if_pos e, if_neg (fun e2 => hx ⟨e, e2⟩), e]
  · rw [if_neg e]
theorem up2_e : up2 h a k v a k = v := by
  unfold up2 up1
  rw [if_pos rfl, if_pos rfl]
end
theorem up2_z {h : Nat → Nat → Int32} {a k x y : Nat} (hx : h x y = 0) : up2 h a k 0 x y = 0 := by
  by_cases e : x = a ∧ y = k
  · rw [e.1, e.2]; exact up2_e
  · rw [up2_n e]; exact hx
theorem mF_n {f : Nat → Nat → Int32} {a j : Nat} (ha : a ≠ 68) : mF f a j = f a j := by
  unfold mF
  simp only [up2_na ha]
theorem mF_z {f : Nat → Nat → Int32} {j : Nat} (hj : j ≠ 38) (h : f 68 j = 0) : mF f 68 j = 0 := by
  unfold mF
  refine up2_z ?_
  rw [up2_n (by omega)]
  exact up2_z (up2_z (up2_z (up2_z (up2_z (up2_z (up2_z (up2_z (up2_z h))))))))
theorem mG_n {g : Nat → Nat → Option Nat} {a j : Nat} (ha : a ≠ 68) : mG g a j = g a j := by
  unfold mG
  simp only [up2_na ha]
theorem pF_n {f : Nat → Nat → Int32} {a j : Nat} (h2 : ¬ (28 ≤ a ∧ a < 68 ∧ a % 2 = 0 ∧ (j = 2 ∨ j = 3))) : ∀ n, n ≤ 20 → pF f n a j = f a j
  | 0, _ => rfl
  | n + 1, hn => by
    show up2 (up2 (pF f n) (28 + 2 * n) 2 1) (28 + 2 * n) 3 0 a j = _
    rw [up2_n (by omega), up2_n (by omega)]
    exact pF_n h2 n (by omega)
theorem pF_2 {f : Nat → Nat → Int32} {t : Nat} : ∀ n, t < n → pF f n (28 + 2 * t) 2 = 1
  | 0, h => absurd h (by omega)
  | n + 1, h => by
    show up2 (up2 (pF f n) (28 + 2 * n) 2 1) (28 + 2 * n) 3 0 (28 + 2 * t) 2 = _
    rw [up2_n (by omega)]
    by_cases e : t = n
    · rw [e]; exact up2_e
    · rw [up2_n (by omega)]
      exact pF_2 n (by omega)
theorem pF_3 {f : Nat → Nat → Int32} {t : Nat} : ∀ n, t < n → pF f n (28 + 2 * t) 3 = 0
  | 0, h => absurd h (by omega)
  | n + 1, h => by
    show up2 (up2 (pF f n) (28 + 2 * n) 2 1) (28 + 2 * n) 3 0 (28 + 2 * t) 3 = _
    by_cases e : t = n
    · rw [e]; exact up2_e
    · rw [up2_n (by omega), up2_n (by omega)]
      exact pF_3 n (by omega)
theorem pG_n {g : Nat → Nat → Option Nat} {a j : Nat} (h1 : ¬ (28 ≤ a ∧ a < 68 ∧ a % 2 = 0 ∧ j = 6)) (h2 : a ≠ 2) : ∀ n, n ≤ 20 → pG g n a j = g a j
  | 0, _ => rfl
  | n + 1, hn => by
    show up2 (up2 (pG g n) (28 + 2 * n) 6 (some (28 + 2 * n + 1))) 2 n (some (28 + 2 * n)) a j = _
    rw [up2_n (by omega), up2_n (by omega)]
    exact pG_n h1 h2 n (by omega)
theorem pG_2 {g : Nat → Nat → Option Nat} {t : Nat} : ∀ n, t < n → pG g n 2 t = some (28 + 2 * t)
  | 0, h => absurd h (by omega)
  | n + 1, h => by
    show up2 (up2 (pG g n) (28 + 2 * n) 6 (some (28 + 2 * n + 1))) 2 n (some (28 + 2 * n)) 2 t = _
    by_cases e : t = n
    · rw [e]; exact up2_e
    · rw [up2_n (by omega), up2_n (by omega)]
      exact pG_2 n (by omega)
theorem pG_6 {g : Nat → Nat → Option Nat} {t : Nat} : ∀ n, t < n → pG g n (28 + 2 * t) 6 = some (29 + 2 * t)
  | 0, h => absurd h (by omega)
  | n + 1, h => by
    show up2 (up2 (pG g n) (28 + 2 * n) 6 (some (28 + 2 * n + 1))) 2 n (some (28 + 2 * n)) (28 + 2 * t) 6 = _
    rw [up2_n (by omega)]
    by_cases e : t = n
    · rw [e, up2_e]; exact congrArg some (by omega)
    · rw [up2_n (by omega)]
      exact pG_6 n (by omega)
theorem pG0_n {g : Nat → Nat → Option Nat} {a j : Nat} (h1 : a ≠ 1) (h3 : a ≠ 3) (h7 : a ≠ 7) (h14 : a ≠ 14) (h20 : a ≠ 20) : pG0 g a j = g a j := by
  unfold pG0 wG kG tG
  simp only [up2_na h1, up2_na h3, up2_na h7, up2_na h14, up2_na h20]
section
variable {ρ : Sto} {f : Nat → Nat → Int32} {g : Nat → Nat → Option Nat}
theorem s_i (hr : Rep ρ 103 (mF (pF (pF0 f) 20)) (mG (pG (pG0 g) 20))) (hf : ∀ a j, a ≠ 0 → f a j = 0) (a j : Nat) (h0 : a ≠ 0) (h1 : ¬ (28 ≤ a ∧ a < 68 ∧ a % 2 = 0 ∧ j = 2)) (h2 : ¬ (a = 7 ∧ j = 5)) (h3 : ¬ (a = 1 ∧ j = 8)) (h4 : ¬ (a = 68 ∧ j = 38)) : gi ρ a j = 0 := by
  have e : pF (pF0 f) 20 a j = 0 := by
    by_cases c : 28 ≤ a ∧ a < 68 ∧ a % 2 = 0 ∧ j = 3
    · obtain ⟨c1, c2, c3, c4⟩ := c
      have ea : a = 28 + 2 * ((a - 28) / 2) := by omega
      rw [c4, ea]
      exact pF_3 20 (by omega)
    · rw [pF_n (by omega) 20 (by omega)]
      unfold pF0
      rw [up2_n h3, up2_n h2]
      exact hf a j h0
  rw [hr]
  show mF (pF (pF0 f) 20) a j = 0
  by_cases c : a = 68
  · rw [c] at e h4 ⊢
    exact mF_z (fun e4 => h4 ⟨rfl, e4⟩) e
  · rw [mF_n c]; exact e
theorem s_r (hr : Rep ρ 103 (mF (pF (pF0 f) 20)) (mG (pG (pG0 g) 20))) (hg : ∀ a j, a ≠ 0 → g a j = none) {t : Nat} (ht : t < 20) : gr ρ (28 + 2 * t) 0 = none := by
  rw [hr]
  show mG (pG (pG0 g) 20) (28 + 2 * t) 0 = none
  rw [mG_n (by omega), pG_n (by omega) (by omega) 20 (by omega), pG0_n (by omega) (by omega) (by omega) (by omega) (by omega)]
  exact hg _ _ (by omega)
theorem s_XB (hr : Rep ρ 103 (mF (pF (pF0 f) 20)) (mG (pG (pG0 g) 20))) : XB ρ := by
  have e : ∀ a j, gr ρ a j = mG (pG (pG0 g) 20) a j := fun a j => by rw [hr]; rfl
  have e2 : ∀ a j, a ≠ 68 → a ≠ 2 → a < 28 → gr ρ a j = pG0 g a j := fun a j h1 h2 h3 => by rw [e, mG_n h1, pG_n (by omega) h2 20 (by omega)]
  refine ⟨by rw [hr.s]; decide, fun i hi => by rw [e, mG_n (by decide)]; exact pG_2 20 hi, fun i hi => by rw [e, mG_n (by omega)]; exact pG_6 20 hi, ?_, ?_, ?_, ?_, ?_, ?_, ?_, ?_, ?_, ?_, ?_, ?_, ?_, ?_, ?_, ?_, ?_, ?_, ?_, ?_, ?_, ?_, ?_, ?_, ?_, ?_⟩ <;> exact (e2 _ _ (by decide) (by decide) (by decide)).trans rfl
theorem s_MB (hr : Rep ρ 103 (mF (pF (pF0 f) 20)) (mG (pG (pG0 g) 20))) (h0 : gi ρ 68 0 = 0) : MB ρ 0 := by
  have e : ∀ j, gr ρ 68 j = mG (pG (pG0 g) 20) 68 j := fun j => by rw [hr]; rfl
  refine ⟨by rw [hr.s]; decide, by decide, h0, ?_⟩
  simp only [e]
  unfold mG
  exact ⟨rfl, rfl, rfl, rfl, rfl, rfl, rfl, rfl, rfl, rfl, rfl, rfl, rfl, rfl, rfl, rfl, rfl, rfl, rfl, rfl, rfl, rfl, rfl, rfl, rfl, rfl, rfl, rfl, rfl, rfl, rfl, rfl, rfl, rfl⟩
theorem IV_0 {N : Nat} {xs : Nat → Int32} (hr : Rep ρ 103 (mF (pF (pF0 f) 20)) (mG (pG (pG0 g) 20))) (hf0 : ∀ j, f 0 j = xs j) (hf : ∀ a j, a ≠ 0 → f a j = 0) (hg0 : g 0 0 = some N) (hg : ∀ a j, a ≠ 0 → g a j = none) : IV N xs ρ 0 := by
  have z := s_i hr hf
  have zt : ∀ t j, t < 20 → j ≠ 2 → gi ρ (28 + 2 * t) j = 0 := fun t j ht hj => z _ _ (by omega) (by omega) (by omega) (by omega) (by omega)
  have zb : ∀ a j, 68 < a → gi ρ a j = 0 := fun a j ha => z _ _ (by omega) (by omega) (by omega) (by omega) (by omega)
  have lz : ∀ a, gl ρ a = fun _ => 0 := fun a => by rw [hr]; rfl
  have n0 : nI 0 = 0 := nI_0
  have s2 : ∀ t, t < 20 → gi ρ (28 + 2 * t) 2 = 1 := fun t ht => by
    rw [hr]
    show mF (pF (pF0 f) 20) (28 + 2 * t) 2 = 1
    rw [mF_n (by omega)]
    exact pF_2 20 ht
  refine ⟨fun _ => [], 0, [], [], fun _ => [], ⟨⟨s_XB hr, fun t ht => ⟨⟨⟨by rw [hr.s]; omega, by rw [kdT3 t ht]⟩, by omega, s_r hr hg ht, trivial, List.nodup_nil, Or.inr ⟨s2 t ht, fun a ha => absurd ha List.not_mem_nil⟩⟩, ?_, fun a ha => absurd ha List.not_mem_nil⟩, fun _ _ _ _ _ a ha => absurd ha List.not_mem_nil, Or.inl (z _ _ (by decide) (by decide) (by decide) (by decide) (by decide))⟩, s_MB hr (z _ _ (by decide) (by decide) (by decide) (by decide) (by decide)), ⟨fun k hk => absurd hk (by omega), List.nodup_nil, fun t _ => List.Perm.refl _, fun t _ => ⟨List.Pairwise.nil, Nat.zero_le _⟩⟩⟩, ?_, ?_, ?_, ?_, ?_, ?_, by decide, by decide⟩
  · exact (zt t 1 ht (by decide)).trans n0.symm
  · refine ⟨fun r hr => absurd hr List.not_mem_nil, fun i _ => (zb 101 i (by decide)).trans n0.symm, fun i _ => (zb 102 i (by decide)).trans n0.symm, fun p _ => ?_, fun p _ => ?_, fun p j _ _ => ?_⟩
    · exact (z 4 p (by decide) (by omega) (by omega) (by omega) (by omega)).trans n0.symm
    · exact (z 5 p (by decide) (by omega) (by omega) (by omega) (by omega)).trans n0.symm
    · exact (z 6 _ (by decide) (by omega) (by omega) (by omega) (by omega)).trans n0.symm
  · refine ⟨by rw [lz, lz], fun a _ => by rw [lz]; exact ⟨(by decide : (-1000000000000000 : Int) ≤ (0 : Int64).toInt), (by decide : (0 : Int64).toInt ≤ 1000000000000000)⟩, fun j _ => ⟨by rw [lz, lz], ?_, Or.inl (zb 88 j (by decide))⟩, ?_, ?_, ?_⟩
    · rw [zb 88 j (by decide)]
      exact z 13 j (by decide) (by omega) (by omega) (by omega) (by omega)
    · rw [show (fun k => decide (¬ gi ρ 88 k = 0)) = fun _ => false from funext fun k => by rw [zb 88 k (by decide)]; rfl]
      exact (z 7 7 (by decide) (by decide) (by decide) (by decide) (by decide)).trans n0.symm
    · funext j
      rw [zb 97 j (by decide)]
      exact z 26 j (by decide) (by omega) (by omega) (by omega) (by omega)
    · have e1 : gi ρ 1 8 = 1 := by
        rw [hr]
        show mF (pF (pF0 f) 20) 1 8 = 1
        rw [mF_n (by decide), pF_n (by decide) 20 (by decide)]
        rfl
      have e2 : gi ρ 68 38 = 1 := by
        rw [hr]
        rfl
      rw [e1, e2]
  · refine ⟨fun t ht => ⟨?_, ?_, ?_⟩, fun t _ => Or.inl ⟨zb 78 t (by decide), List.not_mem_nil⟩, fun t _ => ⟨fun e => ?_, fun _ => zb 80 t (by decide)⟩, List.nodup_nil, trivial, ?_, ?_, fun i o e => ?_, ?_, fun o ho => ⟨⟨?_, fun i q e => ?_⟩, ⟨?_, fun i q e => ?_⟩⟩, fun _ => Nat.zero_le _⟩
    · rw [zt t 3 ht (by decide), zb 78 t (by decide)]
    · rw [zt t 4 ht (by decide), zb 80 t (by decide)]
    · rw [zt t 5 ht (by decide), zb 79 t (by decide)]
    · rw [zb 80 t (by decide)] at e; exact absurd e (by decide)
    · exact (z 68 42 (by decide) (by decide) (by decide) (by decide) (by decide)).trans n0.symm
    · exact (z 1 15 (by decide) (by decide) (by decide) (by decide) (by decide)).trans n0.symm
    · exact absurd e (by simp [klO])
    · exact (z 1 7 (by decide) (by decide) (by decide) (by decide) (by decide)).trans n0.symm
    · exact (zt o 7 ho (by decide)).trans n0.symm
    · exact absurd e (by simp)
    · exact (zb 99 o (by decide)).trans n0.symm
    · exact absurd e (by simp)
  · refine ⟨(z 1 9 (by decide) (by decide) (by decide) (by decide) (by decide)).trans n0.symm, ?_, ?_, ?_, ?_, ?_⟩ <;> rw [z 1 _ (by decide) (by decide) (by decide) (by decide) (by decide), z 68 _ (by decide) (by decide) (by decide) (by decide) (by decide)]
  · refine ⟨[], ⟨(z 14 4 (by decide) (by decide) (by decide) (by decide) (by decide)).trans n0.symm, fun i q e => absurd e (by simp)⟩, by decide, ⟨(z 68 33 (by decide) (by decide) (by decide) (by decide) (by decide)).trans n0.symm, fun i q e => absurd e (by simp)⟩⟩
  · refine ⟨?_, fun j _ => ?_⟩
    · have e : ∀ a j, gr ρ a j = mG (pG (pG0 g) 20) a j := fun a j => by rw [hr]; rfl
      rw [e, mG_n (by decide), pG_n (by decide) (by decide) 20 (by decide), pG0_n (by decide) (by decide) (by decide) (by decide) (by decide)]
      exact hg0
    · rw [hr]
      show mF (pF (pF0 f) 20) 0 j = xs j
      rw [mF_n (by decide), pF_n (by omega) 20 (by decide)]
      exact hf0 j
end
