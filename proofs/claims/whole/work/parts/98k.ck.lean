/-! the law: what a call reads of the script -/
theorem iK1 (n : Nat) : nI n + 1 = nI (n + 1) := nI_add n 1
theorem iK2 (n : Nat) : nI n + 2 = nI (n + 2) := nI_add n 2
theorem iK3 (n : Nat) : nI n + 3 = nI (n + 3) := nI_add n 3
theorem iK4 (n : Nat) : nI n + 4 = nI (n + 4) := nI_add n 4
theorem iK5 (n : Nat) : nI n + 5 = nI (n + 5) := nI_add n 5
theorem iK6 (n : Nat) : nI n + 6 = nI (n + 6) := nI_add n 6
theorem iK7 (n : Nat) : nI n + 7 = nI (n + 7) := nI_add n 7
theorem iK8 (n : Nat) : nI n + 8 = nI (n + 8) := nI_add n 8
theorem iK9 (n : Nat) : nI n + 9 = nI (n + 9) := nI_add n 9
theorem iK10 (n : Nat) : nI n + 10 = nI (n + 10) := nI_add n 10
theorem iK11 (n : Nat) : nI n + 11 = nI (n + 11) := nI_add n 11
def LR (σ : Sto) (xs : Nat → Int32) (i : Nat) : Prop := ∀ k, k < 11 → okX σ 0 (nI (i + k)) ∧ gi σ 0 (nI (i + k)).toNatClampNeg = xs (i + k)
section
variable {N : Nat} {xs : Nat → Int32} {σ σ1 : Sto} {n : Nat} {L : Nat → List Nat} {S : Nat} {D : List Rw} {ol : List Nat} {pth : Nat → List Int32}
theorem LR_of {i : Nat} (h : SC σ N xs) (hi : i + 11 ≤ N) (hN : N ≤ 704) : LR σ xs i := fun k hk => by
  have e : scL σ = N := by unfold scL; rw [h.1]; rfl
  refine ⟨Or.inl ⟨rfl, ?_⟩, ?_⟩
  · unfold okS
    rw [e]
    exact vp_in_nI (by omega) (by omega)
  · rw [nI_clamp (by omega)]
    exact h.2 _ (by omega)
theorem INV.sc (h : INV N xs σ n L S D ol pth) : SC σ N xs := h.2.2.2.2.2.2.1
theorem lwF (h : INV N xs σ n L S D ol pth) (hn : 11 * n + 11 ≤ N) (hN : N ≤ 704) : okO σ 1 5 ∧ 1 ≤ sn σ ∧ LR σ xs (11 * n) := by
  have hs : 103 ≤ sn σ := h.1.1.1.1
  exact ⟨⟨by omega, by decide⟩, by omega, LR_of h.sc hn hN⟩
theorem lwG (h : INV N xs σ n L S D ol pth) (hn : 11 * n + 11 ≤ N) (hN : N ≤ 704) (q : kp σ σ1) : okO σ1 68 6 ∧ LR σ1 xs (11 * n) := by
  have hs : 103 ≤ sn σ := h.1.1.1.1
  have hs1 : sn σ ≤ sn σ1 := q.2.2.2
  exact ⟨⟨by omega, by decide⟩, LR_of (SC_of (by rw [q.2.1]) q.1 h.sc) hn hN⟩
end
theorem lwC {N m : Nat} (hN : N ≤ 704) (hm : m ≤ 704) : (nI N - 11 < nI m) ↔ N < m + 11 := by
  rw [Int32.lt_iff_toInt_lt, Int32.toInt_sub, nI_toInt (by omega), nI_toInt (by omega), show (11 : Int32).toInt = 11 from rfl, Int.bmod_def]
  split <;> omega
theorem lwS (w : Int32) : (∃ k, k < 27 ∧ w = nI k) ∨ (w.toInt < 0 ∨ 26 < w.toInt) := by
  by_cases c : w.toInt < 0 ∨ 26 < w.toInt
  · exact Or.inr c
  · refine Or.inl ⟨w.toInt.toNat, by omega, Int32.toInt_inj.mp ?_⟩
    rw [nI_toInt (by omega)]
    omega
