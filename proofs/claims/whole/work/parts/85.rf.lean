/-! put: both take the number nearest 0 -/
section
variable {f : Nat → Option Int64} {mv : Nat → Int64} {x : Nat}
theorem mxR_i (a b : Int64) : (mxR a b).toInt = max a.toInt b.toInt := by
  unfold mxR
  split
  · rename_i h; rw [Int64.lt_iff_toInt_lt] at h; omega
  · rename_i h; rw [Int64.lt_iff_toInt_lt] at h; omega
theorem mnR_i (a b : Int64) : (mnR a b).toInt = min a.toInt b.toInt := by
  unfold mnR
  split
  · rename_i h; rw [Int64.lt_iff_toInt_lt] at h; omega
  · rename_i h; rw [Int64.lt_iff_toInt_lt] at h; omega
/-- what is known of the numbers set ahead of x -/
def mvI (f : Nat → Option Int64) (mv : Nat → Int64) (x : Nat) : Prop := (∀ y z v, y < x → z < x → f (6 * y + z) = some v → (mv y).toInt - (mv z).toInt ≤ v.toInt) ∧ (∀ y, y < x → -(64000000000 * (x : Int)) ≤ (mv y).toInt ∧ (mv y).toInt ≤ 64000000000 * (x : Int))
def npI (f : Nat → Option Int64) (mv : Nat → Int64) (x n : Nat) (p q : Int64 × Int64) : Prop :=
  (∀ y v, y < n → f (6 * y + x) = some v → (mv y).toInt - v.toInt ≤ p.1.toInt) ∧ (p.1 = -9223372036854775808 ∨ ∃ y v, y < n ∧ f (6 * y + x) = some v ∧ p.1.toInt = (mv y).toInt - v.toInt) ∧
  (∀ y v, y < n → f (6 * x + y) = some v → p.2.toInt ≤ (mv y).toInt + v.toInt) ∧ (p.2 = 9223372036854775807 ∨ ∃ y v, y < n ∧ f (6 * x + y) = some v ∧ p.2.toInt = (mv y).toInt + v.toInt) ∧
  q.1.toInt = max p.1.toInt (-100000000000000) ∧ q.2.toInt = min p.2.toInt 100000000000000
theorem np_fold (hx : x < 6) (hb : bnM 64000000000 f) (hm : mvI f mv x) : ∀ n, n ≤ x → npI f mv x n (itr (npS f mv x) 0 n (-9223372036854775808, 9223372036854775807)) (itr (ptS f mv x) 0 n (-100000000000000, 100000000000000)) := by
  intro n
  induction n with
  | zero =>
    intro _
    exact ⟨fun y v h => (by omega), Or.inl rfl, fun y v h => (by omega), Or.inl rfl, (by show (-100000000000000 : Int64).toInt = max (-9223372036854775808 : Int64).toInt (-100000000000000); decide), (by show (100000000000000 : Int64).toInt = min (9223372036854775807 : Int64).toInt 100000000000000; decide)⟩
  | succ n ih =>
    intro hn
    obtain ⟨i1, i2, i3, i4, i5, i6⟩ := ih (by omega)
    rw [itr_snoc, itr_snoc, Nat.zero_add]
    generalize itr (npS f mv x) 0 n (-9223372036854775808, 9223372036854775807) = p at i1 i2 i3 i4 i5 i6
    generalize itr (ptS f mv x) 0 n (-100000000000000, 100000000000000) = q at i5 i6
    have hmn := hm.2 n (by omega)
    have hmx : (64000000000 * (x : Int)) ≤ 384000000000 := by omega
    -- the lower side
    have lo : (∀ y v, y < n + 1 → f (6 * y + x) = some v → (mv y).toInt - v.toInt ≤ (npS f mv x n p).1.toInt) ∧ ((npS f mv x n p).1 = -9223372036854775808 ∨ ∃ y v, y < n + 1 ∧ f (6 * y + x) = some v ∧ (npS f mv x n p).1.toInt = (mv y).toInt - v.toInt) ∧ (ptS f mv x n q).1.toInt = max (npS f mv x n p).1.toInt (-100000000000000) := by
      simp only [npS, ptS, npL]
      cases hf : f (6 * n + x) with
      | none =>
        refine ⟨fun y v hy e => ?_, ?_, i5⟩
        · by_cases g : y = n
          · rw [g, hf] at e; cases e
          · exact i1 y v (by omega) e
        · rcases i2 with e | ⟨y, v, h1, h2, h3⟩
          · exact Or.inl e
          · exact Or.inr ⟨y, v, by omega, h2, h3⟩
      | some v =>
        have hv := hb _ v (by omega) hf
        have es : (mv n - v).toInt = (mv n).toInt - v.toInt := fb_subL (by omega) (by omega)
        simp only
        refine ⟨fun y w hy e => ?_, ?_, ?_⟩
        · rw [mxR_i, es]
          by_cases g : y = n
          · rw [g, hf] at e; cases e
            rw [g]
            omega
          · have := i1 y w (by omega) e
            omega
        · by_cases g : mv n - v < p.1
          · have e : mxR p.1 (mv n - v) = p.1 := if_pos g
            rw [e]
            rcases i2 with e | ⟨y, w, h1, h2, h3⟩
            · exact Or.inl e
            · exact Or.inr ⟨y, w, by omega, h2, h3⟩
          · have e : mxR p.1 (mv n - v) = mv n - v := if_neg g
            rw [e]
            exact Or.inr ⟨n, v, by omega, hf, es⟩
        · rw [mxR_i, es]
          split
          · rename_i g; rw [Int64.lt_iff_toInt_lt, es] at g; rw [es]; omega
          · rename_i g; rw [Int64.lt_iff_toInt_lt, es] at g; omega
    have hi : (∀ y v, y < n + 1 → f (6 * x + y) = some v → (npS f mv x n p).2.toInt ≤ (mv y).toInt + v.toInt) ∧ ((npS f mv x n p).2 = 9223372036854775807 ∨ ∃ y v, y < n + 1 ∧ f (6 * x + y) = some v ∧ (npS f mv x n p).2.toInt = (mv y).toInt + v.toInt) ∧ (ptS f mv x n q).2.toInt = min (npS f mv x n p).2.toInt 100000000000000 := by
      simp only [npS, ptS, npG]
      cases hf : f (6 * x + n) with
      | none =>
        refine ⟨fun y v hy e => ?_, ?_, i6⟩
        · by_cases g : y = n
          · rw [g, hf] at e; cases e
          · exact i3 y v (by omega) e
        · rcases i4 with e | ⟨y, v, h1, h2, h3⟩
          · exact Or.inl e
          · exact Or.inr ⟨y, v, by omega, h2, h3⟩
      | some v =>
        have hv := hb _ v (by omega) hf
        have es : (mv n + v).toInt = (mv n).toInt + v.toInt := fb_addL (by omega) (by omega)
        simp only
        refine ⟨fun y w hy e => ?_, ?_, ?_⟩
        · rw [mnR_i, es]
          by_cases g : y = n
          · rw [g, hf] at e; cases e
            rw [g]
            omega
          · have := i3 y w (by omega) e
            omega
        · by_cases g : mv n + v < p.2
          · have e : mnR p.2 (mv n + v) = mv n + v := if_pos g
            rw [e]
            exact Or.inr ⟨n, v, by omega, hf, es⟩
          · have e : mnR p.2 (mv n + v) = p.2 := if_neg g
            rw [e]
            rcases i4 with e | ⟨y, w, h1, h2, h3⟩
            · exact Or.inl e
            · exact Or.inr ⟨y, w, by omega, h2, h3⟩
        · rw [mnR_i, es]
          split
          · rename_i g; rw [Int64.lt_iff_toInt_lt, es] at g; rw [es]; omega
          · rename_i g; rw [Int64.lt_iff_toInt_lt, es] at g; omega
    exact ⟨lo.1, lo.2.1, hi.1, hi.2.1, lo.2.2, hi.2.2⟩
theorem np_one (hx : x < 6) (hb : bnM 64000000000 f) (ht : tri 6 f) (hd : dgN f) (hm : mvI f mv x) : npW f mv x = ptW f mv x ∧ mvI f (up1 mv x (npW f mv x)) (x + 1) := by
  obtain ⟨i1, i2, i3, i4, i5, i6⟩ := np_fold hx hb hm x (Nat.le_refl _)
  unfold npW ptW
  generalize itr (npS f mv x) 0 x (-9223372036854775808, 9223372036854775807) = p at i1 i2 i3 i4 i5 i6
  generalize itr (ptS f mv x) 0 x (-100000000000000, 100000000000000) = q at i5 i6
  have tmin : (-9223372036854775808 : Int64).toInt = -9223372036854775808 := by decide
  have tmax : (9223372036854775807 : Int64).toInt = 9223372036854775807 := by decide
  have t0 : (0 : Int64).toInt = 0 := by decide
  have hmx : (64000000000 * (x : Int)) ≤ 384000000000 := by omega
  have r1 := fb_rngL p.1
  have r2 := fb_rngL p.2
  -- the lower side isn't above the upper one
  have hle : p.1.toInt ≤ p.2.toInt := by
    rcases i2 with e | ⟨y, v, h1, h2, h3⟩
    · rw [e, tmin]; omega
    · rcases i4 with e | ⟨z, w, k1, k2, k3⟩
      · rw [e, tmax]; omega
      · obtain ⟨c, c1, c2⟩ := ht x y z v w hx (by omega) (by omega) h2 k2
        have := hm.1 y z c h1 k1 c1
        omega
  have ev : (npV p).toInt = max p.1.toInt (min p.2.toInt 0) := by
    unfold npV
    rw [mxR_i, mnR_i, t0]
  refine ⟨?_, ?_⟩
  · refine Int64.toInt_inj.mp ?_
    rw [ev]
    unfold ptV
    split
    · rename_i g
      rw [Int64.lt_iff_toInt_lt, t0] at g
      omega
    · rename_i g
      rw [Int64.lt_iff_toInt_lt, t0] at g
      split
      · rename_i g2
        rw [Int64.lt_iff_toInt_lt, t0] at g2
        omega
      · rename_i g2
        rw [Int64.lt_iff_toInt_lt, t0] at g2
        rw [t0]
        omega
  · have vb : -(64000000000 * ((x + 1 : Nat) : Int)) ≤ (npV p).toInt ∧ (npV p).toInt ≤ 64000000000 * ((x + 1 : Nat) : Int) := by
      rw [ev]
      have l1 : -(64000000000 * ((x + 1 : Nat) : Int)) ≤ min p.2.toInt 0 := by
        rcases i4 with e | ⟨z, w, k1, k2, k3⟩
        · rw [e, tmax]; omega
        · have := hm.2 z k1
          have := hb _ w (by omega) k2
          omega
      have l2 : p.1.toInt ≤ 64000000000 * ((x + 1 : Nat) : Int) := by
        rcases i2 with e | ⟨y, v, h1, h2, h3⟩
        · rw [e, tmin]; omega
        · have := hm.2 y h1
          have := hb _ v (by omega) h2
          omega
      omega
    refine ⟨fun y z v hy hz e => ?_, fun y hy => ?_⟩
    · by_cases gy : y = x
      · by_cases gz : z = x
        · rw [gy, gz] at e
          have := hd x v hx (by rw [show 7 * x = 6 * x + x by omega]; exact e)
          rw [gy, gz]
          omega
        · rw [gy] at e
          rw [gy, up1_s, up1_n gz, ev]
          have := i3 z v (by omega) e
          omega
      · by_cases gz : z = x
        · rw [gz] at e
          rw [gz, up1_s, up1_n gy, ev]
          have := i1 y v (by omega) e
          omega
        · rw [up1_n gy, up1_n gz]
          exact hm.1 y z v (by omega) (by omega) e
    · by_cases gy : y = x
      · rw [gy, up1_s]; exact vb
      · rw [up1_n gy]
        have := hm.2 y (by omega)
        omega
end
theorem an_put {o : Nat → Option Int64} (hb : bn9 o) (h : agB (fwA o) = true) (mv : Nat → Int64) : itr (npX (fwA o)) 0 6 (mv, 0) = itr (ptX (fwA o)) 0 6 (mv, 0) ∧ mvB (itr (npX (fwA o)) 0 6 (mv, 0)).1 := by
  obtain ⟨h1, h2, h3⟩ := fw_all hb h
  have st : ∀ n, n ≤ 6 → itr (npX (fwA o)) 0 n (mv, 0) = itr (ptX (fwA o)) 0 n (mv, 0) ∧ mvI (fwA o) (itr (npX (fwA o)) 0 n (mv, 0)).1 n := by
    intro n
    induction n with
    | zero => intro _; exact ⟨(by rw [itr, itr]), fun y z v hy => (by omega), fun y hy => (by omega)⟩
    | succ n ih =>
      intro hn
      obtain ⟨e1, e2⟩ := ih (by omega)
      rw [itr_snoc, itr_snoc, Nat.zero_add, ← e1]
      obtain ⟨k1, k2⟩ := np_one (show n < 6 by omega) h2 h1 h3 e2
      refine ⟨?_, ?_⟩
      · have kq : ∀ q : (Nat → Int64) × Nat, npW (fwA o) q.1 n = ptW (fwA o) q.1 n → npX (fwA o) n q = ptX (fwA o) n q := fun q hq => by
          unfold npX ptX
          rw [hq]
        exact kq _ k1
      · exact k2
  obtain ⟨e1, e2⟩ := st 6 (by omega)
  refine ⟨e1, fun a ha => ?_⟩
  have := e2.2 a ha
  omega
