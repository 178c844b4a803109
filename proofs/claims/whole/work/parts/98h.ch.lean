/-! the start: the class -/
def wG (g : Nat → Nat → Option Nat) (a : Nat) : Nat → Nat → Option Nat := up2 (up2 (up2 (up2 (up2 g a 0 (some (a + 1))) a 1 (some (a + 2))) a 2 (some (a + 3))) a 3 (some (a + 4))) a 5 (some (a + 5))
def tG (g : Nat → Nat → Option Nat) : Nat → Nat → Option Nat := up2 (up2 (up2 g 3 0 (some 4)) 3 1 (some 5)) 3 2 (some 6)
def kG (g : Nat → Nat → Option Nat) : Nat → Nat → Option Nat := up2 (up2 (up2 (up2 (up2 (up2 g 7 0 (some 8)) 7 1 (some 9)) 7 2 (some 10)) 7 3 (some 11)) 7 8 (some 12)) 7 9 (some 13)
section
variable {σ : Sto} {f : Nat → Nat → Int32} {g : Nat → Nat → Option Nat}
theorem Bl.le {m n : Nat} (h : Bl m f g) (hm : m ≤ n) : Bl n f g := fun b hb => h b (by omega)
theorem Bl.w {m a : Nat} (h : Bl m f g) (ha : a < m) : Bl m f (wG g a) := ((((h.r ha).r ha).r ha).r ha).r ha
theorem Bl.t {m : Nat} (h : Bl m f g) (ha : 3 < m) : Bl m f (tG g) := ((h.r ha).r ha).r ha
theorem Bl.k {m : Nat} (h : Bl m f g) (ha : 7 < m) : Bl m (up2 f 7 5 1) (kG g) := ((((((h.r ha).r ha).r ha).r ha).r ha).r ha).i ha
theorem C_post_e {d : Nat} {K : Sto → Prop} (hr : Rep σ 26 f g) (hb : Bl 26 f g) (hg : g 1 0 = some 2) (h : ∀ σ', Rep σ' 68 (pF (up2 f 1 8 1) 20) (pG (up2 (up2 g 1 5 (some 26)) 1 6 (some 27)) 20) → Bl 68 (pF (up2 f 1 8 1) 20) (pG (up2 (up2 g 1 5 (some 26)) 1 6 (some 27)) 20) → K σ') : Ev (d + 2, 42, 1388) 59 57 [aR (some 1), aU] [] σ (eV K) := by
  have hs := hr.s
  have k0 : kd 26 = (7, 8) := by decide
  have k1 : kd 27 = (7, 20) := by decide
  rw [v_59_57, v_59_58, v_59_60, hs, k0]
  refine ⟨by decide, by decide, rfl, by decide, by decide, by decide, ?_⟩
  have r1 := hr.al hb
  rw [v_59_62]
  refine ⟨⟨by rw [r1.s]; decide, by decide⟩, ?_⟩
  have r2 := r1.wr 1 5 (some 26)
  have b2 := (hb.s).r (a := 1) (k := 5) (v := some 26) (by decide)
  rw [v_59_65, v_59_66, v_59_68, r2.s]
  show _ ∧ (kd 27).2 ≤ _ ∧ (kd 27).1 = 7 ∧ _ ∧ _ = (kd 27).2 ∧ _ ∧ Ev (_, _, _ - (kd 27).2) _ _ _ _ _ _
  rw [k1]
  refine ⟨by decide, by decide, rfl, by decide, by decide, by decide, ?_⟩
  have r3 := (r2.al b2)
  rw [v_59_70]
  refine ⟨⟨by rw [r3.s]; decide, by decide⟩, ?_⟩
  have r4 := r3.wr 1 6 (some 27)
  have b4 := (b2.s).r (a := 1) (k := 6) (v := some 27) (by decide)
  rw [v_59_73, v_59_74, v_59_75]
  refine ⟨⟨?_, by decide⟩, ?_⟩
  · show 1 < sn (sr _ 1 6 (some 27))
    rw [r4.s]; decide
  have r5 := r4.wi 1 8 1
  have b5 := b4.i (a := 1) (k := 8) (v := 1) (by decide)
  rw [v_59_78, v_59_79]
  refine C_post_loop (f := up2 f 1 8 1) (g := up2 (up2 g 1 5 (some 26)) 1 6 (some 27)) 20 0 _ rfl r5 b5 ?_ h
  rw [r5]
  exact hg
theorem C_post_d {d : Nat} {Q : Po} (hr : Rep σ 20 f g) (hb : Bl 20 f g) (h : ∀ σ', Rep σ' 26 f (up2 (wG g 20) 1 4 (some 20)) → Bl 26 f (up2 (wG g 20) 1 4 (some 20)) → Ev (d + 2, 42, 1388) 59 57 [aR (some 1), aU] [] σ' Q) : Ev (d + 2, 48, 1640) 59 46 [aR (some 1), aU] [] σ Q := by
  have hs := hr.s
  have k0 : kd 20 = (4, 6) := by decide
  rw [v_59_46, v_59_47, hs, k0]
  refine ⟨by decide, by decide, rfl, ?_⟩
  rw [v_59_50]
  show Ev (d + 1 + 1, 42 + 5, 1388 + 246) 59 51 _ _ _ _
  rw [v_59_51]
  refine C_way (a := 20) (hr.al hb) hb.s k0 (by decide) (by decide) (by decide) (by decide) (by decide) (fun σ' hr' => ?_)
  rw [v_59_54]
  exact ⟨⟨by rw [hr'.s]; decide, by decide⟩, h _ (hr'.wr 1 4 (some 20)) (((hb.le (by decide)).w (by decide)).r (by decide))⟩
theorem C_post_c {d : Nat} {Q : Po} (hr : Rep σ 14 f g) (hb : Bl 14 f g) (h : ∀ σ', Rep σ' 20 f (up2 (wG g 14) 1 3 (some 14)) → Bl 20 f (up2 (wG g 14) 1 3 (some 14)) → Ev (d + 2, 48, 1640) 59 46 [aR (some 1), aU] [] σ' Q) : Ev (d + 2, 54, 1892) 59 35 [aR (some 1), aU] [] σ Q := by
  have hs := hr.s
  have k0 : kd 14 = (4, 6) := by decide
  rw [v_59_35, v_59_36, hs, k0]
  refine ⟨by decide, by decide, rfl, ?_⟩
  rw [v_59_39]
  show Ev (d + 1 + 1, 48 + 5, 1640 + 246) 59 40 _ _ _ _
  rw [v_59_40]
  refine C_way (a := 14) (hr.al hb) hb.s k0 (by decide) (by decide) (by decide) (by decide) (by decide) (fun σ' hr' => ?_)
  rw [v_59_43]
  exact ⟨⟨by rw [hr'.s]; decide, by decide⟩, h _ (hr'.wr 1 3 (some 14)) (((hb.le (by decide)).w (by decide)).r (by decide))⟩
theorem C_post_b {d : Nat} {Q : Po} (hr : Rep σ 7 f g) (hb : Bl 7 f g) (h : ∀ σ', Rep σ' 14 (up2 f 7 5 1) (up2 (kG g) 1 2 (some 7)) → Bl 14 (up2 f 7 5 1) (up2 (kG g) 1 2 (some 7)) → Ev (d + 2, 54, 1892) 59 35 [aR (some 1), aU] [] σ' Q) : Ev (d + 2, 61, 1998) 59 24 [aR (some 1), aU] [] σ Q := by
  have hs := hr.s
  have k0 : kd 7 = (0, 10) := by decide
  rw [v_59_24, v_59_25, hs, k0]
  refine ⟨by decide, by decide, rfl, ?_⟩
  rw [v_59_28]
  show Ev (d + 1 + 1, 54 + 6, 1892 + 96) 59 29 _ _ _ _
  rw [v_59_29]
  refine C_clocks (hr.al hb) hb.s (fun σ' hr' => ?_)
  rw [v_59_32]
  exact ⟨⟨by rw [hr'.s]; decide, by decide⟩, h _ (hr'.wr 1 2 (some 7)) (((hb.le (by decide)).k (by decide)).r (by decide))⟩
theorem C_post_a {d : Nat} {Q : Po} (hr : Rep σ 2 f g) (hb : Bl 2 f g) (h : ∀ σ', Rep σ' 7 f (up2 (tG (up2 g 1 0 (some 2))) 1 1 (some 3)) → Bl 7 f (up2 (tG (up2 g 1 0 (some 2))) 1 1 (some 3)) → Ev (d + 2, 61, 1998) 59 24 [aR (some 1), aU] [] σ' Q) : Ev (d + 2, 66, 3605) 59 0 [aR (some 1), aU] [] σ Q := by
  have hs := hr.s
  have k0 : kd 2 = (10, 20) := by decide
  have k1 : kd 3 = (2, 3) := by decide
  rw [v_59_0, v_59_1, v_59_4, v_59_5, v_59_7, hs, k0]
  refine ⟨by decide, by decide, rfl, by decide, by decide, by decide, ?_⟩
  have r1 := hr.al hb
  rw [v_59_10]
  refine ⟨⟨by rw [r1.s]; decide, by decide⟩, ?_⟩
  have r2 := r1.wr 1 0 (some 2)
  have b2 := (hb.s).r (a := 1) (k := 0) (v := some 2) (by decide)
  rw [v_59_13, v_59_14, r2.s]
  show _ ∧ (kd 3).2 ≤ _ ∧ (kd 3).1 = 2 ∧ Ev (_, _, _ - (kd 3).2) _ _ _ _ _ _
  rw [k1]
  refine ⟨by decide, by decide, rfl, ?_⟩
  rw [v_59_17]
  show Ev (d + 1 + 1, 61 + 3, 1998 + 1584) 59 18 _ _ _ _
  rw [v_59_18]
  refine C_totals (r2.al b2) b2.s (fun σ' hr' => ?_)
  rw [v_59_21]
  exact ⟨⟨by rw [hr'.s]; decide, by decide⟩, h _ (hr'.wr 1 1 (some 3)) (((b2.le (by decide)).t (by decide)).r (by decide))⟩
def pF0 (f : Nat → Nat → Int32) : Nat → Nat → Int32 := up2 (up2 f 7 5 1) 1 8 1
def pG0 (g : Nat → Nat → Option Nat) : Nat → Nat → Option Nat := up2 (up2 (up2 (wG (up2 (wG (up2 (kG (up2 (tG (up2 g 1 0 (some 2))) 1 1 (some 3))) 1 2 (some 7)) 14) 1 3 (some 14)) 20) 1 4 (some 20)) 1 5 (some 26)) 1 6 (some 27)
theorem C_post {d : Nat} {K : Sto → Prop} (hr : Rep σ 2 f g) (hb : Bl 2 f g) (h : ∀ σ', Rep σ' 68 (pF (pF0 f) 20) (pG (pG0 g) 20) → Bl 68 (pF (pF0 f) 20) (pG (pG0 g) 20) → K σ') : CV (d + 2) 59 [aR (some 1)] σ K := by
  refine CV_of ?_
  show Ev (d + 2, 66, 3605) 59 0 [aR (some 1), aU] [] σ _
  refine C_post_a hr hb (fun σ1 r1 b1 => ?_)
  refine C_post_b r1 b1 (fun σ2 r2 b2 => ?_)
  refine C_post_c r2 b2 (fun σ3 r3 b3 => ?_)
  refine C_post_d r3 b3 (fun σ4 r4 b4 => ?_)
  exact C_post_e r4 b4 rfl h
end
