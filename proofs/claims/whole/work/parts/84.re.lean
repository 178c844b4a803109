/-! least sums: the triangle, when none round is below 0 -/
theorem up1_s {α : Type} (f : Nat → α) (k : Nat) (v : α) : up1 f k v k = v := if_pos rfl
theorem up1_n {α : Type} {f : Nat → α} {k j : Nat} {v : α} (h : j ≠ k) : up1 f k v j = f j := if_neg h
theorem fwS_cases (z x y : Nat) (f : Nat → Option Int64) : (∃ a b, f (6 * x + z) = some a ∧ f (6 * z + y) = some b ∧ fwS z x y f = up1 f (6 * x + y) (lowO (f (6 * x + y)) (a + b))) ∨ ((f (6 * x + z) = none ∨ f (6 * z + y) = none) ∧ fwS z x y f = f) := by
  unfold fwS
  cases ha : f (6 * x + z) with
  | none => exact Or.inr ⟨Or.inl rfl, rfl⟩
  | some a =>
    cases hb : f (6 * z + y) with
    | none => exact Or.inr ⟨Or.inr rfl, rfl⟩
    | some b => exact Or.inl ⟨a, b, rfl, rfl, rfl⟩
theorem fwS_mono {z x y : Nat} {f : Nat → Option Int64} {j : Nat} {v : Int64} (h : f j = some v) : ∃ w, fwS z x y f j = some w ∧ w ≤ v := by
  rcases fwS_cases z x y f with ⟨a, b, -, -, e⟩ | ⟨-, e⟩
  · rw [e]
    by_cases e : j = 6 * x + y
    · subst e
      rw [up1_s, h]
      simp only [lowO]
      refine ⟨_, rfl, ?_⟩
      split
      · rename_i q; exact Int64.le_of_lt q
      · exact Int64.le_refl _
    · rw [up1_n e]; exact ⟨v, h, Int64.le_refl _⟩
  · rw [e]; exact ⟨v, h, Int64.le_refl _⟩
theorem itr_mono {F : Nat → (Nat → Option Int64) → Nat → Option Int64} (hF : ∀ k f j v, f j = some v → ∃ w, F k f j = some w ∧ w ≤ v) : ∀ (n k : Nat) (f : Nat → Option Int64) (j : Nat) (v : Int64), f j = some v → ∃ w, itr F k n f j = some w ∧ w ≤ v
  | 0, _, f, j, v, h => ⟨v, h, Int64.le_refl _⟩
  | n + 1, k, f, j, v, h => by
    obtain ⟨w, h1, h2⟩ := hF k f j v h
    obtain ⟨u, h3, h4⟩ := itr_mono hF n (k + 1) (F k f) j w h1
    exact ⟨u, h3, Int64.le_trans h4 h2⟩
/-- one service more to go by -/
def fwP (z : Nat) (f : Nat → Option Int64) : Nat → Option Int64 := itr (fun x o => itr (fun y o => fwS z x y o) 0 6 o) 0 6 f
theorem fwA_P (f : Nat → Option Int64) : fwA f = itr fwP 0 6 f := rfl
theorem fwP_mono (z : Nat) (f : Nat → Option Int64) (j : Nat) (v : Int64) (h : f j = some v) : ∃ w, fwP z f j = some w ∧ w ≤ v :=
  itr_mono (fun x f j v h => itr_mono (fun y f j v h => fwS_mono h) 6 0 f j v h) 6 0 f j v h
def mnO (a b c : Option Int64) : Option Int64 := match b, c with
  | some b, some c => lowO a (b + c)
  | _, _ => a
def bnM (M : Int) (f : Nat → Option Int64) : Prop := ∀ j v, j < 36 → f j = some v → -M ≤ v.toInt ∧ v.toInt ≤ M
def dgN (f : Nat → Option Int64) : Prop := ∀ x v, x < 6 → f (7 * x) = some v → 0 ≤ v.toInt
section
variable {f : Nat → Option Int64} {M : Int} {z : Nat}
theorem add_ex (hM : M ≤ 1000000000000) {a b : Int64} (ha : -M ≤ a.toInt ∧ a.toInt ≤ M) (hb : -M ≤ b.toInt ∧ b.toInt ≤ M) : (a + b).toInt = a.toInt + b.toInt := fb_addL (by omega) (by omega)
theorem mnO_col (hz : z < 6) (hM : M ≤ 1000000000000) (hb : bnM M f) (hd : dgN f) {x : Nat} (hx : x < 6) : mnO (f (6 * x + z)) (f (6 * x + z)) (f (6 * z + z)) = f (6 * x + z) := by
  unfold mnO
  cases ha : f (6 * x + z) with
  | none => rfl
  | some a =>
    cases hc : f (6 * z + z) with
    | none => rfl
    | some c =>
      simp only [lowO]
      have h0 := hd z c hz (by rw [show 7 * z = 6 * z + z by omega]; exact hc)
      have h1 := hb _ a (by omega) ha
      have h2 := hb _ c (by omega) hc
      rw [if_neg]
      rw [Int64.lt_iff_toInt_lt, add_ex hM h1 h2]
      omega
theorem mnO_row (hz : z < 6) (hM : M ≤ 1000000000000) (hb : bnM M f) (hd : dgN f) {y : Nat} (hy : y < 6) : mnO (f (6 * z + y)) (f (6 * z + z)) (f (6 * z + y)) = f (6 * z + y) := by
  unfold mnO
  cases ha : f (6 * z + y) with
  | none => cases f (6 * z + z) <;> rfl
  | some a =>
    cases hc : f (6 * z + z) with
    | none => rfl
    | some c =>
      simp only [lowO]
      have h0 := hd z c hz (by rw [show 7 * z = 6 * z + z by omega]; exact hc)
      have h1 := hb _ a (by omega) ha
      have h2 := hb _ c (by omega) hc
      rw [if_neg]
      rw [Int64.lt_iff_toInt_lt, add_ex hM h2 h1]
      omega
/-- so far: the cells below i are new -/
def fwI (f : Nat → Option Int64) (z i : Nat) (g : Nat → Option Int64) : Prop := ∀ x y, x < 6 → y < 6 → g (6 * x + y) = if 6 * x + y < i then mnO (f (6 * x + y)) (f (6 * x + z)) (f (6 * z + y)) else f (6 * x + y)
theorem fwI_step (hz : z < 6) (hM : M ≤ 1000000000000) (hb : bnM M f) (hd : dgN f) {x y : Nat} (hx : x < 6) (hy : y < 6) {g : Nat → Option Int64} (h : fwI f z (6 * x + y) g) : fwI f z (6 * x + y + 1) (fwS z x y g) := by
  have ec : g (6 * x + z) = f (6 * x + z) := by
    rw [h x z hx hz]
    split
    · exact mnO_col hz hM hb hd hx
    · rfl
  have er : g (6 * z + y) = f (6 * z + y) := by
    rw [h z y hz hy]
    split
    · exact mnO_row hz hM hb hd hy
    · rfl
  have e0 : g (6 * x + y) = f (6 * x + y) := by
    rw [h x y hx hy, if_neg (by omega)]
  have eS : fwS z x y g (6 * x + y) = mnO (f (6 * x + y)) (f (6 * x + z)) (f (6 * z + y)) := by
    rcases fwS_cases z x y g with ⟨a, b, e1, e2, e⟩ | ⟨e1, e⟩
    · rw [e, up1_s, e0, ← ec, ← er, e1, e2]
      rfl
    · rw [e, e0, ← ec, ← er]
      unfold mnO
      rcases e1 with e1 | e1
      · rw [e1]
      · rw [e1]
        cases g (6 * x + z) <;> rfl
  have eN : ∀ j, j ≠ 6 * x + y → fwS z x y g j = g j := fun j hj => by
    rcases fwS_cases z x y g with ⟨a, b, e1, e2, e⟩ | ⟨e1, e⟩
    · rw [e]; exact up1_n hj
    · rw [e]
  intro x' y' hx' hy'
  by_cases e : 6 * x' + y' = 6 * x + y
  · have e1 : x' = x := by omega
    have e2 : y' = y := by omega
    subst e1 e2
    rw [eS, if_pos (by omega)]
  · rw [eN _ e, h x' y' hx' hy']
    by_cases q : 6 * x' + y' < 6 * x + y
    · rw [if_pos q, if_pos (by omega)]
    · rw [if_neg q, if_neg (by omega)]
theorem fwP_spec (hz : z < 6) (hM : M ≤ 1000000000000) (hb : bnM M f) (hd : dgN f) : ∀ x y, x < 6 → y < 6 → fwP z f (6 * x + y) = mnO (f (6 * x + y)) (f (6 * x + z)) (f (6 * z + y)) := by
  have hy : ∀ (n y : Nat) (x : Nat) (g : Nat → Option Int64), x < 6 → y + n = 6 → fwI f z (6 * x + y) g → fwI f z (6 * x + 6) (itr (fun y o => fwS z x y o) y n g) := by
    intro n
    induction n with
    | zero => intro y x g hx hn h; rw [show y = 6 by omega] at h; exact h
    | succ n ih =>
      intro y x g hx hn h
      rw [itr]
      exact ih (y + 1) x _ hx (by omega) (fwI_step hz hM hb hd hx (by omega) h)
  have hx : ∀ (n x : Nat) (g : Nat → Option Int64), x + n = 6 → fwI f z (6 * x) g → fwI f z 36 (itr (fun x o => itr (fun y o => fwS z x y o) 0 6 o) x n g) := by
    intro n
    induction n with
    | zero => intro x g hn h; rw [show x = 6 by omega] at h; exact h
    | succ n ih =>
      intro x g hn h
      rw [itr]
      exact ih (x + 1) _ (by omega) (hy 6 0 x g (by omega) (by omega) h)
  have h0 : fwI f z (6 * 0) f := fun x y _ _ => by rw [if_neg (by omega)]
  intro x y h1 h2
  have := hx 6 0 f (by omega) h0 x y h1 h2
  rw [if_pos (by omega)] at this
  exact this
theorem mnO_in (hM : M ≤ 1000000000000) {a b c : Option Int64} {w : Int64} (h : mnO a b c = some w) : a = some w ∨ ∃ u v, b = some u ∧ c = some v ∧ w = u + v := by
  unfold mnO at h
  split at h
  · rename_i u v
    rcases lowO_le h with e | e
    · exact Or.inr ⟨u, v, rfl, rfl, e⟩
    · exact Or.inl e
  · exact Or.inl h
theorem mnO_le1 {a b c : Option Int64} {v : Int64} (h : a = some v) : ∃ w, mnO a b c = some w ∧ w.toInt ≤ v.toInt := by
  unfold mnO
  split
  · rw [h]
    simp only [lowO]
    refine ⟨_, rfl, ?_⟩
    split
    · rename_i q; rw [Int64.lt_iff_toInt_lt] at q; omega
    · omega
  · exact ⟨v, h, by omega⟩
theorem mnO_le2 {a : Option Int64} {u v : Int64} : ∃ w, mnO a (some u) (some v) = some w ∧ w.toInt ≤ (u + v).toInt := by
  unfold mnO
  cases a with
  | none => exact ⟨_, rfl, by omega⟩
  | some s =>
    simp only [lowO]
    refine ⟨_, rfl, ?_⟩
    split
    · omega
    · rename_i q; rw [Int64.lt_iff_toInt_lt] at q; omega
theorem fwP_bn (hz : z < 6) (hM : M ≤ 1000000000000) (hb : bnM M f) (hd : dgN f) : bnM (2 * M) (fwP z f) := fun j w hj hw => by
  have e := fwP_spec hz hM hb hd (j / 6) (j % 6) (by omega) (by omega)
  rw [show 6 * (j / 6) + j % 6 = j by omega] at e
  rw [e] at hw
  rcases mnO_in hM hw with h | ⟨u, v, h1, h2, h3⟩
  · have := hb j w hj h; omega
  · have a1 := hb _ u (by omega) h1
    have a2 := hb _ v (by omega) h2
    rw [h3, add_ex hM a1 a2]
    omega
/-- the triangle by the services below k -/
def tri (k : Nat) (f : Nat → Option Int64) : Prop := ∀ z x y a b, z < k → x < 6 → y < 6 → f (6 * x + z) = some a → f (6 * z + y) = some b → ∃ c, f (6 * x + y) = some c ∧ c.toInt ≤ a.toInt + b.toInt
theorem tri_step (hz : z < 6) (hM : M ≤ 1000000000000) (hb : bnM M f) (hd : dgN f) (h : tri z f) : tri (z + 1) (fwP z f) := by
  have sp := fwP_spec hz hM hb hd
  have bb : ∀ x y v, x < 6 → y < 6 → f (6 * x + y) = some v → -M ≤ v.toInt ∧ v.toInt ≤ M := fun x y v hx hy e => hb _ v (by omega) e
  -- by z itself
  have k1 : ∀ x y a b, x < 6 → y < 6 → f (6 * x + z) = some a → f (6 * z + y) = some b → ∃ c, fwP z f (6 * x + y) = some c ∧ c.toInt ≤ a.toInt + b.toInt := fun x y a b hx hy ea eb => by
    rw [sp x y hx hy, ea, eb]
    obtain ⟨w, h1, h2⟩ := mnO_le2 (a := f (6 * x + y)) (u := a) (v := b)
    rw [add_ex hM (bb x z a hx hz ea) (bb z y b hz hy eb)] at h2
    exact ⟨w, h1, h2⟩
  have k0 : ∀ x y v, x < 6 → y < 6 → f (6 * x + y) = some v → ∃ c, fwP z f (6 * x + y) = some c ∧ c.toInt ≤ v.toInt := fun x y v hx hy e => by
    rw [sp x y hx hy]
    exact mnO_le1 e
  intro u x y a b hu hx hy ha hb'
  by_cases e : u = z
  · subst e
    rw [sp x u hx hz, mnO_col hz hM hb hd hx] at ha
    rw [sp u y hz hy, mnO_row hz hM hb hd hy] at hb'
    exact k1 x y a b hx hy ha hb'
  · have hu' : u < z := by omega
    have hu6 : u < 6 := by omega
    rw [sp x u hx hu6] at ha
    rw [sp u y hu6 hy] at hb'
    rcases mnO_in hM ha with ga | ⟨a1, a2, g1, g2, g3⟩ <;> rcases mnO_in hM hb' with gb | ⟨b1, b2, q1, q2, q3⟩
    · obtain ⟨c, hc1, hc2⟩ := h u x y a b hu' hx hy ga gb
      obtain ⟨w, hw1, hw2⟩ := k0 x y c hx hy hc1
      exact ⟨w, hw1, by omega⟩
    · -- x u , u z z y
      obtain ⟨c, hc1, hc2⟩ := h u x z a b1 hu' hx hz ga q1
      obtain ⟨w, hw1, hw2⟩ := k1 x y c b2 hx hy hc1 q2
      have := add_ex hM (bb u z b1 hu6 hz q1) (bb z y b2 hz hy q2)
      exact ⟨w, hw1, by rw [q3, this]; omega⟩
    · obtain ⟨c, hc1, hc2⟩ := h u z y a2 b hu' hz hy g2 gb
      obtain ⟨w, hw1, hw2⟩ := k1 x y a1 c hx hy g1 hc1
      have := add_ex hM (bb x z a1 hx hz g1) (bb z u a2 hz hu6 g2)
      exact ⟨w, hw1, by rw [g3, this]; omega⟩
    · obtain ⟨c, hc1, hc2⟩ := h u z z a2 b1 hu' hz hz g2 q1
      have c0 := hd z c hz (by rw [show 7 * z = 6 * z + z by omega]; exact hc1)
      obtain ⟨w, hw1, hw2⟩ := k1 x y a1 b2 hx hy g1 q2
      have e1 := add_ex hM (bb x z a1 hx hz g1) (bb z u a2 hz hu6 g2)
      have e2 := add_ex hM (bb u z b1 hu6 hz q1) (bb z y b2 hz hy q2)
      exact ⟨w, hw1, by rw [g3, e1, q3, e2]; omega⟩
end
theorem agB_all {f : Nat → Option Int64} (h : agB f = true) : dgN f := by
  have e : agB f = (((((((true && nnB f 0) && nnB f 1) && nnB f 2) && nnB f 3) && nnB f 4) && nnB f 5)) := rfl
  rw [e] at h
  simp only [Bool.and_eq_true, true_and] at h
  have k : ∀ x, x < 6 → nnB f x = true := fun x hx => by
    rcases (show x = 0 ∨ x = 1 ∨ x = 2 ∨ x = 3 ∨ x = 4 ∨ x = 5 by omega) with rfl | rfl | rfl | rfl | rfl | rfl
    · exact h.1.1.1.1.1
    · exact h.1.1.1.1.2
    · exact h.1.1.1.2
    · exact h.1.1.2
    · exact h.1.2
    · exact h.2
  intro x v hx hv
  have := k x hx
  unfold nnB at this
  rw [hv] at this
  simp only [decide_eq_true_eq] at this
  rw [Int64.le_iff_toInt_le] at this
  exact this
theorem fw_all {o : Nat → Option Int64} (hb : bn9 o) (h : agB (fwA o) = true) : tri 6 (fwA o) ∧ bnM 64000000000 (fwA o) ∧ dgN (fwA o) := by
  have hD := agB_all h
  have st : ∀ (n z : Nat) (f : Nat → Option Int64), z + n = 6 → bnM (2 ^ z * 1000000000) f → tri z f → dgN (itr fwP z n f) → tri 6 (itr fwP z n f) ∧ bnM (2 ^ 6 * 1000000000) (itr fwP z n f) := by
    intro n
    induction n with
    | zero =>
      intro z f hz h1 h2 h3
      rw [show z = 6 by omega] at h1 h2
      exact ⟨h2, h1⟩
    | succ n ih =>
      intro z f hz h1 h2 h3
      rw [itr] at h3 ⊢
      have hz6 : z < 6 := by omega
      have hd : dgN f := fun x v hx hv => by
        obtain ⟨w, e1, e2⟩ := fwP_mono z f _ v hv
        obtain ⟨u, e3, e4⟩ := itr_mono fwP_mono n (z + 1) (fwP z f) _ w e1
        have := h3 x u hx e3
        rw [Int64.le_iff_toInt_le] at e2 e4
        omega
      have hM : (2 ^ z * 1000000000 : Int) ≤ 1000000000000 := by
        rcases (show z = 0 ∨ z = 1 ∨ z = 2 ∨ z = 3 ∨ z = 4 ∨ z = 5 by omega) with rfl | rfl | rfl | rfl | rfl | rfl <;> decide
      refine ih (z + 1) _ (by omega) ?_ (tri_step hz6 hM h1 hd h2) h3
      have := fwP_bn hz6 hM h1 hd
      rw [show (2 ^ (z + 1) * 1000000000 : Int) = 2 * (2 ^ z * 1000000000) by rw [Int.pow_succ]; omega]
      exact this
  have := st 6 0 o (by omega) (fun j v _ hv => by have := hb j v hv; simp; omega) (fun z x y a b hz => by omega) (by rw [← fwA_P]; exact hD)
  rw [← fwA_P] at this
  exact ⟨this.1, this.2, hD⟩
