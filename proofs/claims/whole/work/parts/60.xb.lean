/-! the class: its cells; written by gen_xb.py -/
def XB (σ : Sto) : Prop := 103 ≤ sn σ ∧ (∀ i, i < 20 → gr σ 2 i = some (28 + 2 * i)) ∧ (∀ i, i < 20 → gr σ (28 + 2 * i) 6 = some (29 + 2 * i)) ∧ gr σ 1 0 = some 2 ∧ gr σ 1 1 = some 3 ∧ gr σ 1 2 = some 7 ∧ gr σ 1 3 = some 14 ∧ gr σ 1 4 = some 20 ∧ gr σ 1 5 = some 26 ∧ gr σ 1 6 = some 27 ∧ gr σ 3 0 = some 4 ∧ gr σ 3 1 = some 5 ∧ gr σ 3 2 = some 6 ∧ gr σ 7 0 = some 8 ∧ gr σ 7 1 = some 9 ∧ gr σ 7 2 = some 10 ∧ gr σ 7 3 = some 11 ∧ gr σ 7 8 = some 12 ∧ gr σ 7 9 = some 13 ∧ gr σ 14 0 = some 15 ∧ gr σ 14 1 = some 16 ∧ gr σ 14 2 = some 17 ∧ gr σ 14 3 = some 18 ∧ gr σ 14 5 = some 19 ∧ gr σ 20 0 = some 21 ∧ gr σ 20 1 = some 22 ∧ gr σ 20 2 = some 23 ∧ gr σ 20 3 = some 24 ∧ gr σ 20 5 = some 25
theorem XB.r1_0 {σ : Sto} (h : XB σ) : gr σ 1 0 = some 2 := h.2.2.2.1
theorem XB.r1_1 {σ : Sto} (h : XB σ) : gr σ 1 1 = some 3 := h.2.2.2.2.1
theorem XB.r1_2 {σ : Sto} (h : XB σ) : gr σ 1 2 = some 7 := h.2.2.2.2.2.1
theorem XB.r1_3 {σ : Sto} (h : XB σ) : gr σ 1 3 = some 14 := h.2.2.2.2.2.2.1
theorem XB.r1_4 {σ : Sto} (h : XB σ) : gr σ 1 4 = some 20 := h.2.2.2.2.2.2.2.1
theorem XB.r1_5 {σ : Sto} (h : XB σ) : gr σ 1 5 = some 26 := h.2.2.2.2.2.2.2.2.1
theorem XB.r1_6 {σ : Sto} (h : XB σ) : gr σ 1 6 = some 27 := h.2.2.2.2.2.2.2.2.2.1
theorem XB.r3_0 {σ : Sto} (h : XB σ) : gr σ 3 0 = some 4 := h.2.2.2.2.2.2.2.2.2.2.1
theorem XB.r3_1 {σ : Sto} (h : XB σ) : gr σ 3 1 = some 5 := h.2.2.2.2.2.2.2.2.2.2.2.1
theorem XB.r3_2 {σ : Sto} (h : XB σ) : gr σ 3 2 = some 6 := h.2.2.2.2.2.2.2.2.2.2.2.2.1
theorem XB.r7_0 {σ : Sto} (h : XB σ) : gr σ 7 0 = some 8 := h.2.2.2.2.2.2.2.2.2.2.2.2.2.1
theorem XB.r7_1 {σ : Sto} (h : XB σ) : gr σ 7 1 = some 9 := h.2.2.2.2.2.2.2.2.2.2.2.2.2.2.1
theorem XB.r7_2 {σ : Sto} (h : XB σ) : gr σ 7 2 = some 10 := h.2.2.2.2.2.2.2.2.2.2.2.2.2.2.2.1
theorem XB.r7_3 {σ : Sto} (h : XB σ) : gr σ 7 3 = some 11 := h.2.2.2.2.2.2.2.2.2.2.2.2.2.2.2.2.1
theorem XB.r7_8 {σ : Sto} (h : XB σ) : gr σ 7 8 = some 12 := h.2.2.2.2.2.2.2.2.2.2.2.2.2.2.2.2.2.1
theorem XB.r7_9 {σ : Sto} (h : XB σ) : gr σ 7 9 = some 13 := h.2.2.2.2.2.2.2.2.2.2.2.2.2.2.2.2.2.2.1
theorem XB.r14_0 {σ : Sto} (h : XB σ) : gr σ 14 0 = some 15 := h.2.2.2.2.2.2.2.2.2.2.2.2.2.2.2.2.2.2.2.1
theorem XB.r14_1 {σ : Sto} (h : XB σ) : gr σ 14 1 = some 16 := h.2.2.2.2.2.2.2.2.2.2.2.2.2.2.2.2.2.2.2.2.1
theorem XB.r14_2 {σ : Sto} (h : XB σ) : gr σ 14 2 = some 17 := h.2.2.2.2.2.2.2.2.2.2.2.2.2.2.2.2.2.2.2.2.2.1
theorem XB.r14_3 {σ : Sto} (h : XB σ) : gr σ 14 3 = some 18 := h.2.2.2.2.2.2.2.2.2.2.2.2.2.2.2.2.2.2.2.2.2.2.1
theorem XB.r14_5 {σ : Sto} (h : XB σ) : gr σ 14 5 = some 19 := h.2.2.2.2.2.2.2.2.2.2.2.2.2.2.2.2.2.2.2.2.2.2.2.1
theorem XB.r20_0 {σ : Sto} (h : XB σ) : gr σ 20 0 = some 21 := h.2.2.2.2.2.2.2.2.2.2.2.2.2.2.2.2.2.2.2.2.2.2.2.2.1
theorem XB.r20_1 {σ : Sto} (h : XB σ) : gr σ 20 1 = some 22 := h.2.2.2.2.2.2.2.2.2.2.2.2.2.2.2.2.2.2.2.2.2.2.2.2.2.1
theorem XB.r20_2 {σ : Sto} (h : XB σ) : gr σ 20 2 = some 23 := h.2.2.2.2.2.2.2.2.2.2.2.2.2.2.2.2.2.2.2.2.2.2.2.2.2.2.1
theorem XB.r20_3 {σ : Sto} (h : XB σ) : gr σ 20 3 = some 24 := h.2.2.2.2.2.2.2.2.2.2.2.2.2.2.2.2.2.2.2.2.2.2.2.2.2.2.2.1
theorem XB.r20_5 {σ : Sto} (h : XB σ) : gr σ 20 5 = some 25 := h.2.2.2.2.2.2.2.2.2.2.2.2.2.2.2.2.2.2.2.2.2.2.2.2.2.2.2.2
theorem XB.s {σ : Sto} (h : XB σ) : 103 ≤ sn σ := h.1
theorem XB.tr {σ : Sto} (h : XB σ) {i : Nat} (hi : i < 20) : gr σ 2 i = some (28 + 2 * i) := h.2.1 i hi
theorem XB.pa {σ : Sto} (h : XB σ) {i : Nat} (hi : i < 20) : gr σ (28 + 2 * i) 6 = some (29 + 2 * i) := h.2.2.1 i hi
theorem XB.o1 {σ : Sto} (h : XB σ) : okO σ 1 5 := ⟨Nat.lt_of_lt_of_le (by decide) h.1, by decide⟩
theorem XB.o3 {σ : Sto} (h : XB σ) : okO σ 3 2 := ⟨Nat.lt_of_lt_of_le (by decide) h.1, by decide⟩
theorem XB.o7 {σ : Sto} (h : XB σ) : okO σ 7 0 := ⟨Nat.lt_of_lt_of_le (by decide) h.1, by decide⟩
theorem XB.o14 {σ : Sto} (h : XB σ) : okO σ 14 4 := ⟨Nat.lt_of_lt_of_le (by decide) h.1, by decide⟩
theorem XB.o20 {σ : Sto} (h : XB σ) : okO σ 20 4 := ⟨Nat.lt_of_lt_of_le (by decide) h.1, by decide⟩
theorem kdT3 : ∀ i, i < 20 → kd (28 + 2 * i) = (3, 8) := by decide
theorem kdP7 : ∀ i, i < 20 → kd (29 + 2 * i) = (7, 60) := by decide
theorem XB.oT {σ : Sto} (h : XB σ) {i : Nat} (hi : i < 20) : okO σ (28 + 2 * i) 3 := ⟨Nat.lt_of_lt_of_le (by omega) h.1, by rw [kdT3 i hi]⟩
theorem XB.xP {σ : Sto} (h : XB σ) {i k : Nat} (hi : i < 20) (hk : k < 60) : okX σ (29 + 2 * i) (nI k) := okX_n (Nat.lt_of_lt_of_le (by omega) h.1) (kdP7 i hi) hk (by decide)
theorem XB.aP {σ : Sto} (h : XB σ) {i k : Nat} (hi : i < 20) (hk : k < 60) : okA σ (29 + 2 * i) 7 (nI k) := okA_n (Nat.lt_of_lt_of_le (by omega) h.1) (kdP7 i hi) hk (by decide)
theorem XB.a2 {σ : Sto} (h : XB σ) {k : Nat} (hk : k < 20) : okA σ 2 10 (nI k) := okA_n (Nat.lt_of_lt_of_le (by decide) h.1) (by decide) hk (by decide)
theorem XB.x4 {σ : Sto} (h : XB σ) {k : Nat} (hk : k < 48) : okX σ 4 (nI k) := okX_n (Nat.lt_of_lt_of_le (by decide) h.1) (by decide) hk (by decide)
theorem XB.a4 {σ : Sto} (h : XB σ) {k : Nat} (hk : k < 48) : okA σ 4 7 (nI k) := okA_n (Nat.lt_of_lt_of_le (by decide) h.1) (by decide) hk (by decide)
theorem XB.x5 {σ : Sto} (h : XB σ) {k : Nat} (hk : k < 48) : okX σ 5 (nI k) := okX_n (Nat.lt_of_lt_of_le (by decide) h.1) (by decide) hk (by decide)
theorem XB.a5 {σ : Sto} (h : XB σ) {k : Nat} (hk : k < 48) : okA σ 5 7 (nI k) := okA_n (Nat.lt_of_lt_of_le (by decide) h.1) (by decide) hk (by decide)
theorem XB.x6 {σ : Sto} (h : XB σ) {k : Nat} (hk : k < 1488) : okX σ 6 (nI k) := okX_n (Nat.lt_of_lt_of_le (by decide) h.1) (by decide) hk (by decide)
theorem XB.a6 {σ : Sto} (h : XB σ) {k : Nat} (hk : k < 1488) : okA σ 6 7 (nI k) := okA_n (Nat.lt_of_lt_of_le (by decide) h.1) (by decide) hk (by decide)
theorem XB.a8 {σ : Sto} (h : XB σ) {k : Nat} (hk : k < 36) : okA σ 8 8 (nI k) := okA_n (Nat.lt_of_lt_of_le (by decide) h.1) (by decide) hk (by decide)
theorem XB.a9 {σ : Sto} (h : XB σ) {k : Nat} (hk : k < 36) : okA σ 9 8 (nI k) := okA_n (Nat.lt_of_lt_of_le (by decide) h.1) (by decide) hk (by decide)
theorem XB.a10 {σ : Sto} (h : XB σ) {k : Nat} (hk : k < 6) : okA σ 10 8 (nI k) := okA_n (Nat.lt_of_lt_of_le (by decide) h.1) (by decide) hk (by decide)
theorem XB.x11 {σ : Sto} (h : XB σ) {k : Nat} (hk : k < 6) : okX σ 11 (nI k) := okX_n (Nat.lt_of_lt_of_le (by decide) h.1) (by decide) hk (by decide)
theorem XB.a11 {σ : Sto} (h : XB σ) {k : Nat} (hk : k < 6) : okA σ 11 7 (nI k) := okA_n (Nat.lt_of_lt_of_le (by decide) h.1) (by decide) hk (by decide)
theorem XB.a12 {σ : Sto} (h : XB σ) {k : Nat} (hk : k < 6) : okA σ 12 8 (nI k) := okA_n (Nat.lt_of_lt_of_le (by decide) h.1) (by decide) hk (by decide)
theorem XB.a13 {σ : Sto} (h : XB σ) {k : Nat} (hk : k < 6) : okA σ 13 9 (nI k) := okA_n (Nat.lt_of_lt_of_le (by decide) h.1) (by decide) hk (by decide)
theorem XB.x15 {σ : Sto} (h : XB σ) {k : Nat} (hk : k < 60) : okX σ 15 (nI k) := okX_n (Nat.lt_of_lt_of_le (by decide) h.1) (by decide) hk (by decide)
theorem XB.a15 {σ : Sto} (h : XB σ) {k : Nat} (hk : k < 60) : okA σ 15 7 (nI k) := okA_n (Nat.lt_of_lt_of_le (by decide) h.1) (by decide) hk (by decide)
theorem XB.x16 {σ : Sto} (h : XB σ) {k : Nat} (hk : k < 60) : okX σ 16 (nI k) := okX_n (Nat.lt_of_lt_of_le (by decide) h.1) (by decide) hk (by decide)
theorem XB.a16 {σ : Sto} (h : XB σ) {k : Nat} (hk : k < 60) : okA σ 16 7 (nI k) := okA_n (Nat.lt_of_lt_of_le (by decide) h.1) (by decide) hk (by decide)
theorem XB.a17 {σ : Sto} (h : XB σ) {k : Nat} (hk : k < 60) : okA σ 17 8 (nI k) := okA_n (Nat.lt_of_lt_of_le (by decide) h.1) (by decide) hk (by decide)
theorem XB.a18 {σ : Sto} (h : XB σ) {k : Nat} (hk : k < 60) : okA σ 18 8 (nI k) := okA_n (Nat.lt_of_lt_of_le (by decide) h.1) (by decide) hk (by decide)
theorem XB.a19 {σ : Sto} (h : XB σ) {k : Nat} (hk : k < 6) : okA σ 19 8 (nI k) := okA_n (Nat.lt_of_lt_of_le (by decide) h.1) (by decide) hk (by decide)
theorem XB.x21 {σ : Sto} (h : XB σ) {k : Nat} (hk : k < 60) : okX σ 21 (nI k) := okX_n (Nat.lt_of_lt_of_le (by decide) h.1) (by decide) hk (by decide)
theorem XB.a21 {σ : Sto} (h : XB σ) {k : Nat} (hk : k < 60) : okA σ 21 7 (nI k) := okA_n (Nat.lt_of_lt_of_le (by decide) h.1) (by decide) hk (by decide)
theorem XB.x22 {σ : Sto} (h : XB σ) {k : Nat} (hk : k < 60) : okX σ 22 (nI k) := okX_n (Nat.lt_of_lt_of_le (by decide) h.1) (by decide) hk (by decide)
theorem XB.a22 {σ : Sto} (h : XB σ) {k : Nat} (hk : k < 60) : okA σ 22 7 (nI k) := okA_n (Nat.lt_of_lt_of_le (by decide) h.1) (by decide) hk (by decide)
theorem XB.a23 {σ : Sto} (h : XB σ) {k : Nat} (hk : k < 60) : okA σ 23 8 (nI k) := okA_n (Nat.lt_of_lt_of_le (by decide) h.1) (by decide) hk (by decide)
theorem XB.a24 {σ : Sto} (h : XB σ) {k : Nat} (hk : k < 60) : okA σ 24 8 (nI k) := okA_n (Nat.lt_of_lt_of_le (by decide) h.1) (by decide) hk (by decide)
theorem XB.a25 {σ : Sto} (h : XB σ) {k : Nat} (hk : k < 6) : okA σ 25 8 (nI k) := okA_n (Nat.lt_of_lt_of_le (by decide) h.1) (by decide) hk (by decide)
theorem XB.x26 {σ : Sto} (h : XB σ) {k : Nat} (hk : k < 8) : okX σ 26 (nI k) := okX_n (Nat.lt_of_lt_of_le (by decide) h.1) (by decide) hk (by decide)
theorem XB.a26 {σ : Sto} (h : XB σ) {k : Nat} (hk : k < 8) : okA σ 26 7 (nI k) := okA_n (Nat.lt_of_lt_of_le (by decide) h.1) (by decide) hk (by decide)
theorem XB.x27 {σ : Sto} (h : XB σ) {k : Nat} (hk : k < 20) : okX σ 27 (nI k) := okX_n (Nat.lt_of_lt_of_le (by decide) h.1) (by decide) hk (by decide)
theorem XB.a27 {σ : Sto} (h : XB σ) {k : Nat} (hk : k < 20) : okA σ 27 7 (nI k) := okA_n (Nat.lt_of_lt_of_le (by decide) h.1) (by decide) hk (by decide)
theorem XB_of {σ σ' : Sto} (h1 : sn σ ≤ sn σ') (h2 : ∀ a k, a < 103 → (a < 28 ∨ k ≠ 0) → gr σ' a k = gr σ a k) (h : XB σ) : XB σ' := by
  refine ⟨Nat.le_trans h.1 h1, fun i hi => (h2 _ _ (by omega) (Or.inl (by omega))).trans (h.tr hi), fun i hi => (h2 _ _ (by omega) (Or.inr (by omega))).trans (h.pa hi), (h2 _ _ (by omega) (Or.inl (by omega))).trans h.r1_0, (h2 _ _ (by omega) (Or.inl (by omega))).trans h.r1_1, (h2 _ _ (by omega) (Or.inl (by omega))).trans h.r1_2, (h2 _ _ (by omega) (Or.inl (by omega))).trans h.r1_3, (h2 _ _ (by omega) (Or.inl (by omega))).trans h.r1_4, (h2 _ _ (by omega) (Or.inl (by omega))).trans h.r1_5, (h2 _ _ (by omega) (Or.inl (by omega))).trans h.r1_6, (h2 _ _ (by omega) (Or.inl (by omega))).trans h.r3_0, (h2 _ _ (by omega) (Or.inl (by omega))).trans h.r3_1, (h2 _ _ (by omega) (Or.inl (by omega))).trans h.r3_2, (h2 _ _ (by omega) (Or.inl (by omega))).trans h.r7_0, (h2 _ _ (by omega) (Or.inl (by omega))).trans h.r7_1, (h2 _ _ (by omega) (Or.inl (by omega))).trans h.r7_2, (h2 _ _ (by omega) (Or.inl (by omega))).trans h.r7_3, (h2 _ _ (by omega) (Or.inl (by omega))).trans h.r7_8, (h2 _ _ (by omega) (Or.inl (by omega))).trans h.r7_9, (h2 _ _ (by omega) (Or.inl (by omega))).trans h.r14_0, (h2 _ _ (by omega) (Or.inl (by omega))).trans h.r14_1, (h2 _ _ (by omega) (Or.inl (by omega))).trans h.r14_2, (h2 _ _ (by omega) (Or.inl (by omega))).trans h.r14_3, (h2 _ _ (by omega) (Or.inl (by omega))).trans h.r14_5, (h2 _ _ (by omega) (Or.inl (by omega))).trans h.r20_0, (h2 _ _ (by omega) (Or.inl (by omega))).trans h.r20_1, (h2 _ _ (by omega) (Or.inl (by omega))).trans h.r20_2, (h2 _ _ (by omega) (Or.inl (by omega))).trans h.r20_3, (h2 _ _ (by omega) (Or.inl (by omega))).trans h.r20_5⟩
