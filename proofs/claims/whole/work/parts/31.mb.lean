/-! the reference: its cells; written by gen_mb.py -/
def MB (σ : Sto) (S : Nat) : Prop := 103 ≤ sn σ ∧ S ≤ 200 ∧ gi σ 68 0 = nI S ∧ gr σ 68 1 = some 69 ∧ gr σ 68 2 = some 70 ∧ gr σ 68 3 = some 71 ∧ gr σ 68 4 = some 72 ∧ gr σ 68 5 = some 73 ∧ gr σ 68 6 = some 74 ∧ gr σ 68 7 = some 75 ∧ gr σ 68 8 = some 76 ∧ gr σ 68 9 = some 77 ∧ gr σ 68 10 = some 78 ∧ gr σ 68 11 = some 79 ∧ gr σ 68 12 = some 80 ∧ gr σ 68 19 = some 81 ∧ gr σ 68 20 = some 82 ∧ gr σ 68 21 = some 83 ∧ gr σ 68 22 = some 84 ∧ gr σ 68 23 = some 85 ∧ gr σ 68 24 = some 86 ∧ gr σ 68 25 = some 87 ∧ gr σ 68 26 = some 88 ∧ gr σ 68 28 = some 89 ∧ gr σ 68 29 = some 90 ∧ gr σ 68 30 = some 91 ∧ gr σ 68 31 = some 92 ∧ gr σ 68 32 = some 93 ∧ gr σ 68 34 = some 94 ∧ gr σ 68 35 = some 95 ∧ gr σ 68 36 = some 96 ∧ gr σ 68 37 = some 97 ∧ gr σ 68 39 = some 98 ∧ gr σ 68 40 = some 99 ∧ gr σ 68 41 = some 100 ∧ gr σ 68 43 = some 101 ∧ gr σ 68 44 = some 102
theorem MB.r1 {σ : Sto} {S : Nat} (h : MB σ S) : gr σ 68 1 = some 69 := h.2.2.2.1
theorem MB.r2 {σ : Sto} {S : Nat} (h : MB σ S) : gr σ 68 2 = some 70 := h.2.2.2.2.1
theorem MB.r3 {σ : Sto} {S : Nat} (h : MB σ S) : gr σ 68 3 = some 71 := h.2.2.2.2.2.1
theorem MB.r4 {σ : Sto} {S : Nat} (h : MB σ S) : gr σ 68 4 = some 72 := h.2.2.2.2.2.2.1
theorem MB.r5 {σ : Sto} {S : Nat} (h : MB σ S) : gr σ 68 5 = some 73 := h.2.2.2.2.2.2.2.1
theorem MB.r6 {σ : Sto} {S : Nat} (h : MB σ S) : gr σ 68 6 = some 74 := h.2.2.2.2.2.2.2.2.1
theorem MB.r7 {σ : Sto} {S : Nat} (h : MB σ S) : gr σ 68 7 = some 75 := h.2.2.2.2.2.2.2.2.2.1
theorem MB.r8 {σ : Sto} {S : Nat} (h : MB σ S) : gr σ 68 8 = some 76 := h.2.2.2.2.2.2.2.2.2.2.1
theorem MB.r9 {σ : Sto} {S : Nat} (h : MB σ S) : gr σ 68 9 = some 77 := h.2.2.2.2.2.2.2.2.2.2.2.1
theorem MB.r10 {σ : Sto} {S : Nat} (h : MB σ S) : gr σ 68 10 = some 78 := h.2.2.2.2.2.2.2.2.2.2.2.2.1
theorem MB.r11 {σ : Sto} {S : Nat} (h : MB σ S) : gr σ 68 11 = some 79 := h.2.2.2.2.2.2.2.2.2.2.2.2.2.1
theorem MB.r12 {σ : Sto} {S : Nat} (h : MB σ S) : gr σ 68 12 = some 80 := h.2.2.2.2.2.2.2.2.2.2.2.2.2.2.1
theorem MB.r19 {σ : Sto} {S : Nat} (h : MB σ S) : gr σ 68 19 = some 81 := h.2.2.2.2.2.2.2.2.2.2.2.2.2.2.2.1
theorem MB.r20 {σ : Sto} {S : Nat} (h : MB σ S) : gr σ 68 20 = some 82 := h.2.2.2.2.2.2.2.2.2.2.2.2.2.2.2.2.1
theorem MB.r21 {σ : Sto} {S : Nat} (h : MB σ S) : gr σ 68 21 = some 83 := h.2.2.2.2.2.2.2.2.2.2.2.2.2.2.2.2.2.1
theorem MB.r22 {σ : Sto} {S : Nat} (h : MB σ S) : gr σ 68 22 = some 84 := h.2.2.2.2.2.2.2.2.2.2.2.2.2.2.2.2.2.2.1
theorem MB.r23 {σ : Sto} {S : Nat} (h : MB σ S) : gr σ 68 23 = some 85 := h.2.2.2.2.2.2.2.2.2.2.2.2.2.2.2.2.2.2.2.1
theorem MB.r24 {σ : Sto} {S : Nat} (h : MB σ S) : gr σ 68 24 = some 86 := h.2.2.2.2.2.2.2.2.2.2.2.2.2.2.2.2.2.2.2.2.1
theorem MB.r25 {σ : Sto} {S : Nat} (h : MB σ S) : gr σ 68 25 = some 87 := h.2.2.2.2.2.2.2.2.2.2.2.2.2.2.2.2.2.2.2.2.2.1
theorem MB.r26 {σ : Sto} {S : Nat} (h : MB σ S) : gr σ 68 26 = some 88 := h.2.2.2.2.2.2.2.2.2.2.2.2.2.2.2.2.2.2.2.2.2.2.1
theorem MB.r28 {σ : Sto} {S : Nat} (h : MB σ S) : gr σ 68 28 = some 89 := h.2.2.2.2.2.2.2.2.2.2.2.2.2.2.2.2.2.2.2.2.2.2.2.1
theorem MB.r29 {σ : Sto} {S : Nat} (h : MB σ S) : gr σ 68 29 = some 90 := h.2.2.2.2.2.2.2.2.2.2.2.2.2.2.2.2.2.2.2.2.2.2.2.2.1
theorem MB.r30 {σ : Sto} {S : Nat} (h : MB σ S) : gr σ 68 30 = some 91 := h.2.2.2.2.2.2.2.2.2.2.2.2.2.2.2.2.2.2.2.2.2.2.2.2.2.1
theorem MB.r31 {σ : Sto} {S : Nat} (h : MB σ S) : gr σ 68 31 = some 92 := h.2.2.2.2.2.2.2.2.2.2.2.2.2.2.2.2.2.2.2.2.2.2.2.2.2.2.1
theorem MB.r32 {σ : Sto} {S : Nat} (h : MB σ S) : gr σ 68 32 = some 93 := h.2.2.2.2.2.2.2.2.2.2.2.2.2.2.2.2.2.2.2.2.2.2.2.2.2.2.2.1
theorem MB.r34 {σ : Sto} {S : Nat} (h : MB σ S) : gr σ 68 34 = some 94 := h.2.2.2.2.2.2.2.2.2.2.2.2.2.2.2.2.2.2.2.2.2.2.2.2.2.2.2.2.1
theorem MB.r35 {σ : Sto} {S : Nat} (h : MB σ S) : gr σ 68 35 = some 95 := h.2.2.2.2.2.2.2.2.2.2.2.2.2.2.2.2.2.2.2.2.2.2.2.2.2.2.2.2.2.1
theorem MB.r36 {σ : Sto} {S : Nat} (h : MB σ S) : gr σ 68 36 = some 96 := h.2.2.2.2.2.2.2.2.2.2.2.2.2.2.2.2.2.2.2.2.2.2.2.2.2.2.2.2.2.2.1
theorem MB.r37 {σ : Sto} {S : Nat} (h : MB σ S) : gr σ 68 37 = some 97 := h.2.2.2.2.2.2.2.2.2.2.2.2.2.2.2.2.2.2.2.2.2.2.2.2.2.2.2.2.2.2.2.1
theorem MB.r39 {σ : Sto} {S : Nat} (h : MB σ S) : gr σ 68 39 = some 98 := h.2.2.2.2.2.2.2.2.2.2.2.2.2.2.2.2.2.2.2.2.2.2.2.2.2.2.2.2.2.2.2.2.1
theorem MB.r40 {σ : Sto} {S : Nat} (h : MB σ S) : gr σ 68 40 = some 99 := h.2.2.2.2.2.2.2.2.2.2.2.2.2.2.2.2.2.2.2.2.2.2.2.2.2.2.2.2.2.2.2.2.2.1
theorem MB.r41 {σ : Sto} {S : Nat} (h : MB σ S) : gr σ 68 41 = some 100 := h.2.2.2.2.2.2.2.2.2.2.2.2.2.2.2.2.2.2.2.2.2.2.2.2.2.2.2.2.2.2.2.2.2.2.1
theorem MB.r43 {σ : Sto} {S : Nat} (h : MB σ S) : gr σ 68 43 = some 101 := h.2.2.2.2.2.2.2.2.2.2.2.2.2.2.2.2.2.2.2.2.2.2.2.2.2.2.2.2.2.2.2.2.2.2.2.1
theorem MB.r44 {σ : Sto} {S : Nat} (h : MB σ S) : gr σ 68 44 = some 102 := h.2.2.2.2.2.2.2.2.2.2.2.2.2.2.2.2.2.2.2.2.2.2.2.2.2.2.2.2.2.2.2.2.2.2.2.2
theorem MB.s {σ : Sto} {S : Nat} (h : MB σ S) : 103 ≤ sn σ := h.1
theorem MB.c {σ : Sto} {S : Nat} (h : MB σ S) : S ≤ 200 := h.2.1
theorem MB.n {σ : Sto} {S : Nat} (h : MB σ S) : gi σ 68 0 = nI S := h.2.2.1
theorem MB.o {σ : Sto} {S : Nat} (h : MB σ S) : okO σ 68 6 := ⟨Nat.lt_of_lt_of_le (by decide) h.1, by decide⟩
theorem MB.x69 {σ : Sto} {S : Nat} (h : MB σ S) {k : Nat} (hk : k < 200) : okX σ 69 (nI k) := okX_n (Nat.lt_of_lt_of_le (by decide) h.1) (by decide) hk (by decide)
theorem MB.a69 {σ : Sto} {S : Nat} (h : MB σ S) {k : Nat} (hk : k < 200) : okA σ 69 7 (nI k) := okA_n (Nat.lt_of_lt_of_le (by decide) h.1) (by decide) hk (by decide)
theorem MB.x70 {σ : Sto} {S : Nat} (h : MB σ S) {k : Nat} (hk : k < 200) : okX σ 70 (nI k) := okX_n (Nat.lt_of_lt_of_le (by decide) h.1) (by decide) hk (by decide)
theorem MB.a70 {σ : Sto} {S : Nat} (h : MB σ S) {k : Nat} (hk : k < 200) : okA σ 70 7 (nI k) := okA_n (Nat.lt_of_lt_of_le (by decide) h.1) (by decide) hk (by decide)
theorem MB.x71 {σ : Sto} {S : Nat} (h : MB σ S) {k : Nat} (hk : k < 200) : okX σ 71 (nI k) := okX_n (Nat.lt_of_lt_of_le (by decide) h.1) (by decide) hk (by decide)
theorem MB.a71 {σ : Sto} {S : Nat} (h : MB σ S) {k : Nat} (hk : k < 200) : okA σ 71 7 (nI k) := okA_n (Nat.lt_of_lt_of_le (by decide) h.1) (by decide) hk (by decide)
theorem MB.x72 {σ : Sto} {S : Nat} (h : MB σ S) {k : Nat} (hk : k < 200) : okX σ 72 (nI k) := okX_n (Nat.lt_of_lt_of_le (by decide) h.1) (by decide) hk (by decide)
theorem MB.a72 {σ : Sto} {S : Nat} (h : MB σ S) {k : Nat} (hk : k < 200) : okA σ 72 7 (nI k) := okA_n (Nat.lt_of_lt_of_le (by decide) h.1) (by decide) hk (by decide)
theorem MB.x73 {σ : Sto} {S : Nat} (h : MB σ S) {k : Nat} (hk : k < 200) : okX σ 73 (nI k) := okX_n (Nat.lt_of_lt_of_le (by decide) h.1) (by decide) hk (by decide)
theorem MB.a73 {σ : Sto} {S : Nat} (h : MB σ S) {k : Nat} (hk : k < 200) : okA σ 73 7 (nI k) := okA_n (Nat.lt_of_lt_of_le (by decide) h.1) (by decide) hk (by decide)
theorem MB.x74 {σ : Sto} {S : Nat} (h : MB σ S) {k : Nat} (hk : k < 200) : okX σ 74 (nI k) := okX_n (Nat.lt_of_lt_of_le (by decide) h.1) (by decide) hk (by decide)
theorem MB.a74 {σ : Sto} {S : Nat} (h : MB σ S) {k : Nat} (hk : k < 200) : okA σ 74 7 (nI k) := okA_n (Nat.lt_of_lt_of_le (by decide) h.1) (by decide) hk (by decide)
theorem MB.x75 {σ : Sto} {S : Nat} (h : MB σ S) {k : Nat} (hk : k < 200) : okX σ 75 (nI k) := okX_n (Nat.lt_of_lt_of_le (by decide) h.1) (by decide) hk (by decide)
theorem MB.a75 {σ : Sto} {S : Nat} (h : MB σ S) {k : Nat} (hk : k < 200) : okA σ 75 7 (nI k) := okA_n (Nat.lt_of_lt_of_le (by decide) h.1) (by decide) hk (by decide)
theorem MB.a76 {σ : Sto} {S : Nat} (h : MB σ S) {k : Nat} (hk : k < 200) : okA σ 76 8 (nI k) := okA_n (Nat.lt_of_lt_of_le (by decide) h.1) (by decide) hk (by decide)
theorem MB.a77 {σ : Sto} {S : Nat} (h : MB σ S) {k : Nat} (hk : k < 200) : okA σ 77 8 (nI k) := okA_n (Nat.lt_of_lt_of_le (by decide) h.1) (by decide) hk (by decide)
theorem MB.x78 {σ : Sto} {S : Nat} (h : MB σ S) {k : Nat} (hk : k < 20) : okX σ 78 (nI k) := okX_n (Nat.lt_of_lt_of_le (by decide) h.1) (by decide) hk (by decide)
theorem MB.a78 {σ : Sto} {S : Nat} (h : MB σ S) {k : Nat} (hk : k < 20) : okA σ 78 7 (nI k) := okA_n (Nat.lt_of_lt_of_le (by decide) h.1) (by decide) hk (by decide)
theorem MB.x79 {σ : Sto} {S : Nat} (h : MB σ S) {k : Nat} (hk : k < 20) : okX σ 79 (nI k) := okX_n (Nat.lt_of_lt_of_le (by decide) h.1) (by decide) hk (by decide)
theorem MB.a79 {σ : Sto} {S : Nat} (h : MB σ S) {k : Nat} (hk : k < 20) : okA σ 79 7 (nI k) := okA_n (Nat.lt_of_lt_of_le (by decide) h.1) (by decide) hk (by decide)
theorem MB.x80 {σ : Sto} {S : Nat} (h : MB σ S) {k : Nat} (hk : k < 20) : okX σ 80 (nI k) := okX_n (Nat.lt_of_lt_of_le (by decide) h.1) (by decide) hk (by decide)
theorem MB.a80 {σ : Sto} {S : Nat} (h : MB σ S) {k : Nat} (hk : k < 20) : okA σ 80 7 (nI k) := okA_n (Nat.lt_of_lt_of_le (by decide) h.1) (by decide) hk (by decide)
theorem MB.a81 {σ : Sto} {S : Nat} (h : MB σ S) {k : Nat} (hk : k < 36) : okA σ 81 8 (nI k) := okA_n (Nat.lt_of_lt_of_le (by decide) h.1) (by decide) hk (by decide)
theorem MB.a82 {σ : Sto} {S : Nat} (h : MB σ S) {k : Nat} (hk : k < 36) : okA σ 82 8 (nI k) := okA_n (Nat.lt_of_lt_of_le (by decide) h.1) (by decide) hk (by decide)
theorem MB.a83 {σ : Sto} {S : Nat} (h : MB σ S) {k : Nat} (hk : k < 36) : okA σ 83 9 (nI k) := okA_n (Nat.lt_of_lt_of_le (by decide) h.1) (by decide) hk (by decide)
theorem MB.a84 {σ : Sto} {S : Nat} (h : MB σ S) {k : Nat} (hk : k < 36) : okA σ 84 9 (nI k) := okA_n (Nat.lt_of_lt_of_le (by decide) h.1) (by decide) hk (by decide)
theorem MB.x85 {σ : Sto} {S : Nat} (h : MB σ S) {k : Nat} (hk : k < 6) : okX σ 85 (nI k) := okX_n (Nat.lt_of_lt_of_le (by decide) h.1) (by decide) hk (by decide)
theorem MB.a85 {σ : Sto} {S : Nat} (h : MB σ S) {k : Nat} (hk : k < 6) : okA σ 85 7 (nI k) := okA_n (Nat.lt_of_lt_of_le (by decide) h.1) (by decide) hk (by decide)
theorem MB.a86 {σ : Sto} {S : Nat} (h : MB σ S) {k : Nat} (hk : k < 6) : okA σ 86 8 (nI k) := okA_n (Nat.lt_of_lt_of_le (by decide) h.1) (by decide) hk (by decide)
theorem MB.a87 {σ : Sto} {S : Nat} (h : MB σ S) {k : Nat} (hk : k < 6) : okA σ 87 8 (nI k) := okA_n (Nat.lt_of_lt_of_le (by decide) h.1) (by decide) hk (by decide)
theorem MB.a88 {σ : Sto} {S : Nat} (h : MB σ S) {k : Nat} (hk : k < 6) : okA σ 88 9 (nI k) := okA_n (Nat.lt_of_lt_of_le (by decide) h.1) (by decide) hk (by decide)
theorem MB.x89 {σ : Sto} {S : Nat} (h : MB σ S) {k : Nat} (hk : k < 400) : okX σ 89 (nI k) := okX_n (Nat.lt_of_lt_of_le (by decide) h.1) (by decide) hk (by decide)
theorem MB.a89 {σ : Sto} {S : Nat} (h : MB σ S) {k : Nat} (hk : k < 400) : okA σ 89 7 (nI k) := okA_n (Nat.lt_of_lt_of_le (by decide) h.1) (by decide) hk (by decide)
theorem MB.a90 {σ : Sto} {S : Nat} (h : MB σ S) {k : Nat} (hk : k < 400) : okA σ 90 8 (nI k) := okA_n (Nat.lt_of_lt_of_le (by decide) h.1) (by decide) hk (by decide)
theorem MB.a91 {σ : Sto} {S : Nat} (h : MB σ S) {k : Nat} (hk : k < 400) : okA σ 91 8 (nI k) := okA_n (Nat.lt_of_lt_of_le (by decide) h.1) (by decide) hk (by decide)
theorem MB.x92 {σ : Sto} {S : Nat} (h : MB σ S) {k : Nat} (hk : k < 64) : okX σ 92 (nI k) := okX_n (Nat.lt_of_lt_of_le (by decide) h.1) (by decide) hk (by decide)
theorem MB.a92 {σ : Sto} {S : Nat} (h : MB σ S) {k : Nat} (hk : k < 64) : okA σ 92 7 (nI k) := okA_n (Nat.lt_of_lt_of_le (by decide) h.1) (by decide) hk (by decide)
theorem MB.a93 {σ : Sto} {S : Nat} (h : MB σ S) {k : Nat} (hk : k < 64) : okA σ 93 8 (nI k) := okA_n (Nat.lt_of_lt_of_le (by decide) h.1) (by decide) hk (by decide)
theorem MB.x94 {σ : Sto} {S : Nat} (h : MB σ S) {k : Nat} (hk : k < 400) : okX σ 94 (nI k) := okX_n (Nat.lt_of_lt_of_le (by decide) h.1) (by decide) hk (by decide)
theorem MB.a94 {σ : Sto} {S : Nat} (h : MB σ S) {k : Nat} (hk : k < 400) : okA σ 94 7 (nI k) := okA_n (Nat.lt_of_lt_of_le (by decide) h.1) (by decide) hk (by decide)
theorem MB.a95 {σ : Sto} {S : Nat} (h : MB σ S) {k : Nat} (hk : k < 400) : okA σ 95 8 (nI k) := okA_n (Nat.lt_of_lt_of_le (by decide) h.1) (by decide) hk (by decide)
theorem MB.a96 {σ : Sto} {S : Nat} (h : MB σ S) {k : Nat} (hk : k < 400) : okA σ 96 8 (nI k) := okA_n (Nat.lt_of_lt_of_le (by decide) h.1) (by decide) hk (by decide)
theorem MB.x97 {σ : Sto} {S : Nat} (h : MB σ S) {k : Nat} (hk : k < 8) : okX σ 97 (nI k) := okX_n (Nat.lt_of_lt_of_le (by decide) h.1) (by decide) hk (by decide)
theorem MB.a97 {σ : Sto} {S : Nat} (h : MB σ S) {k : Nat} (hk : k < 8) : okA σ 97 7 (nI k) := okA_n (Nat.lt_of_lt_of_le (by decide) h.1) (by decide) hk (by decide)
theorem MB.x98 {σ : Sto} {S : Nat} (h : MB σ S) {k : Nat} (hk : k < 8000) : okX σ 98 (nI k) := okX_n (Nat.lt_of_lt_of_le (by decide) h.1) (by decide) hk (by decide)
theorem MB.a98 {σ : Sto} {S : Nat} (h : MB σ S) {k : Nat} (hk : k < 8000) : okA σ 98 7 (nI k) := okA_n (Nat.lt_of_lt_of_le (by decide) h.1) (by decide) hk (by decide)
theorem MB.x99 {σ : Sto} {S : Nat} (h : MB σ S) {k : Nat} (hk : k < 20) : okX σ 99 (nI k) := okX_n (Nat.lt_of_lt_of_le (by decide) h.1) (by decide) hk (by decide)
theorem MB.a99 {σ : Sto} {S : Nat} (h : MB σ S) {k : Nat} (hk : k < 20) : okA σ 99 7 (nI k) := okA_n (Nat.lt_of_lt_of_le (by decide) h.1) (by decide) hk (by decide)
theorem MB.x100 {σ : Sto} {S : Nat} (h : MB σ S) {k : Nat} (hk : k < 20) : okX σ 100 (nI k) := okX_n (Nat.lt_of_lt_of_le (by decide) h.1) (by decide) hk (by decide)
theorem MB.a100 {σ : Sto} {S : Nat} (h : MB σ S) {k : Nat} (hk : k < 20) : okA σ 100 7 (nI k) := okA_n (Nat.lt_of_lt_of_le (by decide) h.1) (by decide) hk (by decide)
theorem MB.x101 {σ : Sto} {S : Nat} (h : MB σ S) {k : Nat} (hk : k < 1536) : okX σ 101 (nI k) := okX_n (Nat.lt_of_lt_of_le (by decide) h.1) (by decide) hk (by decide)
theorem MB.a101 {σ : Sto} {S : Nat} (h : MB σ S) {k : Nat} (hk : k < 1536) : okA σ 101 7 (nI k) := okA_n (Nat.lt_of_lt_of_le (by decide) h.1) (by decide) hk (by decide)
theorem MB.x102 {σ : Sto} {S : Nat} (h : MB σ S) {k : Nat} (hk : k < 48) : okX σ 102 (nI k) := okX_n (Nat.lt_of_lt_of_le (by decide) h.1) (by decide) hk (by decide)
theorem MB.a102 {σ : Sto} {S : Nat} (h : MB σ S) {k : Nat} (hk : k < 48) : okA σ 102 7 (nI k) := okA_n (Nat.lt_of_lt_of_le (by decide) h.1) (by decide) hk (by decide)
