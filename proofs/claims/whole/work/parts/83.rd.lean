/-! the ring: one by one, and place by place -/
theorem fnd_split {p : Nat → Bool} : ∀ (a b k : Nat), fnd p k (a + b) = (fnd p k a).or (fnd p (k + a) b)
  | 0, b, k => by simp [fnd]
  | a + 1, b, k => by
    rw [show a + 1 + b = (a + b) + 1 by omega, fnd, fnd]
    cases p k with
    | true => rfl
    | false =>
      simp only [Bool.false_eq_true, if_false]
      rw [fnd_split a b (k + 1), show k + 1 + a = k + (a + 1) by omega]
theorem fnd_shift {p : Nat → Bool} (s : Nat) : ∀ (n k : Nat), fnd p (s + k) n = (fnd (fun c => p (s + c)) k n).map (fun c => s + c)
  | 0, _ => rfl
  | n + 1, k => by
    rw [fnd, fnd]
    cases p (s + k) with
    | true => rfl
    | false =>
      simp only [Bool.false_eq_true, if_false]
      exact fnd_shift s n (k + 1)
theorem fnd_block {p : Nat → Bool} (B : Nat) : ∀ (n k : Nat), fnd p (k * B) (n * B) = fsF (fun x => (fnd (fun c => p (x * B + c)) 0 B).map (fun c => x * B + c)) k n
  | 0, k => by rw [Nat.zero_mul]; rfl
  | n + 1, k => by
    rw [Nat.succ_mul, Nat.add_comm, fnd_split, fsF, ← fnd_block B n (k + 1), Nat.succ_mul]
    have := fnd_shift (p := p) (k * B) B 0
    rw [Nat.add_zero] at this
    rw [this]
def sfx : Nat → Nat → List Nat
  | 0, _ => []
  | n + 1, c => (c / 6 ^ n % 6) :: sfx n c
theorem sfx_add : ∀ (n a c : Nat), sfx n (a * 6 ^ n + c) = sfx n c
  | 0, _, _ => rfl
  | n + 1, a, c => by
    have e : a * 6 ^ (n + 1) + c = (6 * a) * 6 ^ n + c := by rw [Nat.pow_succ, Nat.mul_comm (6 ^ n) 6, ← Nat.mul_assoc, Nat.mul_comm a 6]
    rw [sfx, sfx, e, sfx_add n (6 * a) c]
    have h6 : 0 < 6 ^ n := Nat.pow_pos (by decide)
    rw [Nat.add_comm, Nat.add_mul_div_right _ _ h6, Nat.add_mul_mod_self_left]
theorem sfx_dig : ∀ (n c : Nat), sfx n c = (List.range n).map (dig n c)
  | 0, _ => rfl
  | n + 1, c => by
    rw [sfx, sfx_dig n c, List.range_succ_eq_map, List.map_cons, List.map_map]
    congr 1
    refine List.map_congr_left (fun j _ => ?_)
    show dig n c j = dig (n + 1) c (j + 1)
    unfold dig
    rw [show n + 1 - 1 - (j + 1) = n - 1 - j by omega]
def clE (o : Nat → Option Int64) (p : List Nat) (s : Int64) : Bool := clR o (p.head?.getD 0) (p.getLast?.getD 0) s
def okQ (o : Nat → Option Int64) : List Nat → Int64 → List Nat → Bool
  | p, s, [] => clE o p s
  | p, s, x :: q => match stR o p x with
    | none => false
    | some v => if x ∈ p then false else okQ o (p ++ [x]) (s + v) q
def flQ (o : Nat → Option Int64) : Nat → List Nat → Int64 → Option (List Nat)
  | 0, p, s => if clE o p s then some p else none
  | n + 1, p, s => fsF (fun x => match stR o p x with
    | none => none
    | some v => if x ∈ p then none else flQ o n (p ++ [x]) (s + v)) 0 6
theorem fsF_congr {β : Type} {g h : Nat → Option β} : ∀ (n k : Nat), (∀ j, k ≤ j → j < k + n → g j = h j) → fsF g k n = fsF h k n
  | 0, _, _ => rfl
  | n + 1, k, e => by rw [fsF, fsF, e k (by omega) (by omega), fsF_congr n (k + 1) (fun j h1 h2 => e j (by omega) (by omega))]
theorem flR_Q (o : Nat → Option Int64) : ∀ (n : Nat) (p : List Nat) (s : Int64), flR o (n + 1) p s = flQ o (n + 1) p s
  | 0, p, s => by
    rw [flR, flQ]
    refine fsF_congr 6 0 (fun x _ _ => ?_)
    unfold flG
    cases stR o p x with
    | none => rfl
    | some v =>
      have e : clE o (p ++ [x]) (s + v) = clR o ((p ++ [x]).head?.getD 0) x (s + v) := by
        unfold clE
        rw [List.getLast?_append]
        rfl
      simp only [flQ, e]
  | n + 1, p, s => by
    rw [flR, flQ]
    refine fsF_congr 6 0 (fun x _ _ => ?_)
    unfold flG
    cases stR o p x with
    | none => rfl
    | some v =>
      simp only
      rw [flR_Q o n]
theorem flQ_fnd (o : Nat → Option Int64) : ∀ (n : Nat) (p : List Nat) (s : Int64), flQ o n p s = (fnd (fun c => okQ o p s (sfx n c)) 0 (6 ^ n)).map (fun c => p ++ sfx n c)
  | 0, p, s => by
    rw [flQ, Nat.pow_zero, fnd, fnd]
    simp only [sfx, okQ, List.append_nil]
    cases clE o p s <;> rfl
  | n + 1, p, s => by
    have hb := fnd_block (p := fun c => okQ o p s (sfx (n + 1) c)) (6 ^ n) 6 0
    rw [Nat.zero_mul] at hb
    rw [flQ, Nat.pow_succ, Nat.mul_comm (6 ^ n) 6, hb]
    have mp : ∀ (g : Nat → Option Nat) (f : Nat → List Nat) (m k : Nat), (fsF g k m).map f = fsF (fun x => (g x).map f) k m := by
      intro g f m
      induction m with
      | zero => intro k; rfl
      | succ m ih =>
        intro k
        rw [fsF, fsF, ← ih (k + 1)]
        cases g k <;> rfl
    rw [mp]
    refine fsF_congr 6 0 (fun x _ hx => ?_)
    have h6 : 0 < 6 ^ n := Nat.pow_pos (by decide)
    have e : ∀ c, c < 6 ^ n → sfx (n + 1) (x * 6 ^ n + c) = x :: sfx n c := fun c hc => by
      rw [sfx, sfx_add]
      congr 1
      rw [Nat.add_comm, Nat.add_mul_div_right _ _ h6, Nat.div_eq_of_lt hc]
      omega
    have fc : ∀ (q r : Nat → Bool) (m k : Nat), (∀ c, c < k + m → q c = r c) → fnd q k m = fnd r k m := by
      intro q r m
      induction m with
      | zero => intro k _; rfl
      | succ m ih => intro k h; rw [fnd, fnd, h k (by omega), ih (k + 1) (fun c hc => h c (by omega))]
    cases hs : stR o p x with
    | none =>
      have : fnd (fun c => okQ o p s (sfx (n + 1) (x * 6 ^ n + c))) 0 (6 ^ n) = none := by
        cases hf : fnd (fun c => okQ o p s (sfx (n + 1) (x * 6 ^ n + c))) 0 (6 ^ n) with
        | none => rfl
        | some c =>
          obtain ⟨-, h2, h3⟩ := fnd_lt _ _ _ _ hf
          rw [e c (by omega), okQ, hs] at h3
          cases h3
      rw [this]; rfl
    | some v =>
      simp only
      by_cases hx : x ∈ p
      · rw [if_pos hx]
        have : fnd (fun c => okQ o p s (sfx (n + 1) (x * 6 ^ n + c))) 0 (6 ^ n) = none := by
          cases hf : fnd (fun c => okQ o p s (sfx (n + 1) (x * 6 ^ n + c))) 0 (6 ^ n) with
          | none => rfl
          | some c =>
            obtain ⟨-, h2, h3⟩ := fnd_lt _ _ _ _ hf
            rw [e c (by omega), okQ, hs] at h3
            simp only [if_pos hx] at h3
            cases h3
        rw [this]; rfl
      · rw [if_neg hx, flQ_fnd o n (p ++ [x]) (s + v)]
        have : fnd (fun c => okQ o p s (sfx (n + 1) (x * 6 ^ n + c))) 0 (6 ^ n) = fnd (fun c => okQ o (p ++ [x]) (s + v) (sfx n c)) 0 (6 ^ n) := fc _ _ _ _ (fun c hc => by
          rw [e c (by omega), okQ, hs]
          simp only [if_neg hx])
        rw [this]
        cases hf : fnd (fun c => okQ o (p ++ [x]) (s + v) (sfx n c)) 0 (6 ^ n) with
        | none => rfl
        | some c =>
          obtain ⟨-, h2, -⟩ := fnd_lt _ _ _ _ hf
          simp only [Option.map_some]
          rw [e c (by omega)]
          simp
theorem dup_iff (g : Nat → Nat) (k : Nat) : (fnd (fun i => decide (g i = g k)) 0 k).isSome = decide (g k ∈ (List.range k).map g) := by
  rw [Bool.eq_iff_iff, decide_eq_true_eq, List.mem_map]
  cases hf : fnd (fun i => decide (g i = g k)) 0 k with
  | none =>
    simp only [Option.isSome_none, Bool.false_eq_true, false_iff]
    rintro ⟨i, hi, e⟩
    have := fnd_none hf i (by omega) (by have := List.mem_range.mp hi; omega)
    simp [e] at this
  | some i =>
    obtain ⟨-, h2, h3⟩ := fnd_lt _ _ _ _ hf
    simp only [Option.isSome_some, true_iff]
    exact ⟨i, List.mem_range.mpr (by omega), by simpa using h3⟩
theorem rgL_ok (o : Nat → Option Int64) (m : Nat) (g : Nat → Nat) : ∀ (n k : Nat) (s : Int64), k + (n + 1) = m → rgL o m g (n + 1) k s = (if g k ∈ (List.range k).map g then false else okQ o ((List.range (k + 1)).map g) s ((List.range' (k + 1) n).map g))
  | 0, k, s, h => by
    rw [rgL, dup_iff]
    by_cases hd : g k ∈ (List.range k).map g
    · rw [if_pos hd, if_pos (by simpa using hd)]
    · rw [if_neg hd, if_neg (by simpa using hd)]
      have e0 : (k + 1) % m = 0 := by rw [show m = k + 1 by omega, Nat.mod_self]
      rw [e0]
      show _ = clE o ((List.range (k + 1)).map g) s
      have eh : ((List.range (k + 1)).map g).head?.getD 0 = g 0 := by
        rw [List.range_succ_eq_map]; rfl
      have el : ((List.range (k + 1)).map g).getLast?.getD 0 = g k := by
        rw [List.range_succ, List.map_append, List.getLast?_append]; rfl
      unfold clE clR
      rw [eh, el]
      cases o (6 * g k + g 0) <;> rfl
  | n + 1, k, s, h => by
    rw [rgL, dup_iff]
    by_cases hd : g k ∈ (List.range k).map g
    · rw [if_pos hd, if_pos (by simpa using hd)]
    · rw [if_neg hd, if_neg (by simpa using hd)]
      have e0 : (k + 1) % m = k + 1 := Nat.mod_eq_of_lt (by omega)
      have el : ((List.range (k + 1)).map g).getLast? = some (g k) := by
        rw [List.range_succ, List.map_append, List.getLast?_append]; rfl
      rw [e0, List.range'_succ, List.map_cons, okQ]
      unfold stR
      rw [el]
      simp only
      cases o (6 * g k + g (k + 1)) with
      | none => rfl
      | some v =>
        simp only
        rw [rgL_ok o m g n (k + 1) (s + v) (by omega)]
        have ea : (List.range (k + 1)).map g ++ [g (k + 1)] = (List.range (k + 1 + 1)).map g := by
          rw [List.range_succ (n := k + 1), List.map_append]; rfl
        rw [ea]
theorem rgB_ok (o : Nat → Option Int64) (n c : Nat) : rgB o (n + 1) c = okQ o [] 0 (sfx (n + 1) c) := by
  unfold rgB
  have h1 : (List.range 0).map (dig (n + 1) c) = [] := rfl
  have h2 : (List.range (0 + 1)).map (dig (n + 1) c) = [dig (n + 1) c 0] := rfl
  rw [rgL_ok o (n + 1) _ n 0 0 (by omega), h1, h2, if_neg List.not_mem_nil, sfx_dig, List.range_eq_range', List.range'_succ, List.map_cons, okQ]
  show _ = (if dig (n + 1) c 0 ∈ [] then false else okQ o ([] ++ [dig (n + 1) c 0]) (0 + 0) _)
  rw [if_neg List.not_mem_nil, Int64.add_zero]
  rfl
theorem fnR_rgS (o : Nat → Option Int64) : ∀ (n m : Nat), 1 ≤ m → fnR o m n = (rgS o m n).map (fun q => (List.range q.1).map (dig q.1 q.2))
  | 0, _, _ => rfl
  | n + 1, m, hm => by
    obtain ⟨k, rfl⟩ : ∃ k, m = k + 1 := ⟨m - 1, by omega⟩
    have e : rgB o (k + 1) = fun c => okQ o [] 0 (sfx (k + 1) c) := funext (fun c => rgB_ok o k c)
    rw [fnR, rgS, flR_Q, flQ_fnd]
    unfold rgM
    rw [e]
    cases hf : fnd (fun c => okQ o [] 0 (sfx (k + 1) c)) 0 (6 ^ (k + 1)) with
    | some c =>
      simp only [Option.map_some, List.nil_append, sfx_dig]
      rfl
    | none =>
      simp only [Option.map_none]
      rw [fnR_rgS o n (k + 1 + 1) (by omega)]
      rfl
theorem an_ring (o : Nat → Option Int64) (i : Nat) : riX o i = if agB (fwA o) then -1 else rgA o i := by
  unfold riX rgA
  rw [fnR_rgS o 5 2 (by omega)]
  cases agB (fwA o) with
  | true => rfl
  | false =>
    simp only [Bool.false_eq_true, if_false]
    cases rgS o 2 5 with
    | none => rfl
    | some q =>
      obtain ⟨m, c⟩ := q
      simp only [Option.map_some]
      by_cases hi : i < m
      · rw [List.getElem?_map, List.getElem?_range hi, if_pos hi]
        rfl
      · rw [if_neg hi, List.getElem?_eq_none (by simp; omega)]
