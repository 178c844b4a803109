/-! both: report, whole -/
section
variable {N : Nat} {xs : Nat → Int32} {σ σ' : Sto} {n d : Nat} {L : Nat → List Nat} {S : Nat} {D : List Rw} {ol : List Nat} {pth : Nat → List Int32}
theorem op_report (h : INV N xs σ n L S D ol pth) (hn : n < 64) (x m p v c k : Int32) (b e : Int64) : CI (d + 40) 60 [aR (some 1), aI x, aI m, aI p, aI v, aI c, aI k, aL b, aL e] σ (fun a σ1 => CI (d + 40) 110 [aR (some 68), aI x, aI m, aI p, aI v, aI c, aI k, aL b, aL e] σ1 (fun b' σ2 => a = b' ∧ IV N xs σ2 (n + 1))) := by
  obtain ⟨⟨i1, i2, i3⟩, i4, i5, i6, i7, i8, i9, i10⟩ := id h
  obtain ⟨c1, c2, -⟩ := id i6
  obtain ⟨r1, -⟩ := id i7
  have s103 := i1.xb.1
  have S64 : S ≤ 64 := by omega
  obtain ⟨r, er⟩ : ∃ r : Rw, r = (x, m, p, v, c, k - k / 8 * 8, k / 8, b, e) := ⟨_, rfl⟩
  have hrx : rT r = x := by rw [er]; rfl
  have hrn : rN r = m := by rw [er]; rfl
  refine X_report (r := r) i1 er (fun nb => ?_) (fun gd hr t ht et => ⟨fun hs => ?_, fun hs => ⟨fun hf => ⟨fun hfull => ?_, fun nf1 nf2 σ' sI s0 sl sz s2 => ?_⟩, fun a hf ha => ⟨fun k0 => ?_, fun k3 => ?_, fun k2 σ1 σ2 sI1 sI2 s0 sl sz s2 => ?_⟩⟩⟩)
  · exact M_report i2 (fun _ => ⟨rfl, h.iv hn⟩) (fun g => absurd g nb)
  · have hM : MB (si σ 1 13 (gi σ 1 13 + 1)) S := MB_of (σ := σ) (Nat.le_refl _) (by rw [gi_si_k, if_neg (by omega)]) rfl i2
    refine M_report hM (fun g => absurd gd g) (fun _ j hj ej => ?_)
    have ej' : t = j := (nI_eq (by omega) (by omega)).mp (et.symm.trans ej)
    rw [← ej', show gi (si σ 1 13 (gi σ 1 13 + 1)) 78 t = gi σ 78 t by rw [gi_si_k, if_neg (by omega)], show gi (si σ 1 13 (gi σ 1 13 + 1)) 68 16 = gi σ 68 16 by rw [gi_si_k, if_neg (by omega)]]
    refine ⟨fun _ => ⟨rfl, (h.cc (Or.inr (Or.inr ⟨rfl, rfl⟩))).iv hn⟩, fun q => ?_⟩
    rw [(c1 t ht).1] at hs
    rcases c2 t ht with z | z | z
    · exact absurd z.1 hs
    · rw [z.1] at q; exact absurd (by decide) q
    · rw [z.1] at q; exact absurd (by decide) q
  all_goals
    have hst : gi σ 78 t = 0 := by rw [← (c1 t ht).1]; exact hs
    have hlen : (rws σ 0 S).countP (fun r => decide (rT r = nI t)) = (L t).length := by
      have q := (i3.2.2.1 t ht).length_eq
      rw [List.length_map, ← List.countP_eq_length_filter] at q
      exact q
    have h30 := (i3.2.2.2 t ht).2
    have hrt : rT r = nI t := hrx.trans et
    obtain ⟨J, hJ⟩ := h.tc ht
  · refine M_report i2 (fun g => absurd gd g) (fun _ j hj ej => ?_)
    have ej' : t = j := (nI_eq (by omega) (by omega)).mp (et.symm.trans ej)
    rw [← ej', hst, et]
    refine ⟨fun q => absurd q (by decide), fun _ => ⟨fun _ => ⟨fun _ => ⟨rfl, h.iv hn⟩, fun _ q => ?_⟩, fun k0 fk => ?_⟩⟩
    · exfalso
      rcases hfull with g | g
      · have := (nI_leI (a := 30) (by omega) (by omega)).mp g
        exact q (by omega)
      · rw [r1] at g
        have := (nI_leI (a := 200) (by omega) (by omega)).mp g
        omega
    · rcases hJ.f m with ⟨g1, g2⟩ | ⟨k', a', g1, g2, g3⟩
      · rw [g1] at fk; cases fk
      · rw [hf] at g2; cases g2
  · obtain ⟨gx, em, hMx⟩ := tn_x h ht sI
    have fn : fIx (key (nI t) m) 0 (rws σ 0 S) = none := by
      rcases hJ.f m with ⟨g1, g2⟩ | ⟨k', a', g1, g2, g3⟩
      · exact g1
      · rw [hf] at g2; cases g2
    refine M_report hMx (fun g => absurd gd g) (fun _ j hj ej => ?_)
    have ej' : t = j := (nI_eq (by omega) (by omega)).mp (et.symm.trans ej)
    rw [← ej', gx 78 t (by omega) (by omega) (by omega) (by omega) (by omega) (by omega) (by omega), hst, rws_of em, ← er]
    refine ⟨fun q => absurd q (by decide), fun _ => ⟨fun _ => ⟨fun q => ?_, fun q1 q2 => ⟨rfl, ?_⟩⟩, fun k0 fk => ?_⟩⟩
    · exfalso
      rw [et] at q
      rcases q with q | q
      · omega
      · exact nf1 ((nI_leI (a := 30) (by omega) (by omega)).mpr (by omega))
    · refine rp_new h hn ht hr hrt (by rw [hrn]; exact hf) (by rw [hrn]; exact fn) ?_ sI s0 sl sz s2
      exact Nat.lt_of_not_le (fun q => nf1 ((nI_leI (a := 30) (by omega) (by omega)).mpr q))
    · rw [et, fn] at fk; cases fk
  all_goals
    obtain ⟨k1, g1, g3⟩ : ∃ k1, fIx (key (nI t) m) 0 (rws σ 0 S) = some k1 ∧ rl σ t (L t) J k1 a := by
      rcases hJ.f m with ⟨g1, g2⟩ | ⟨k', a', g1, g2, g3⟩
      · rw [hf] at g2; cases g2
      · rw [hf] at g2; cases g2
        exact ⟨k', g1, g3⟩
    have hk1 := hJ.lt g3
    have sg := sg_R hr (i1.r ht a ha)
    subst et
  · have h1 := h.nw r
    have e10 : gi (nwX σ r) 1 10 = gi σ 1 10 := by rw [nwX_gi (by omega)]
    have hM : MB (si (nwX σ r) 1 10 (gi σ 1 10 + 1)) S := MB_of (σ := nwX σ r) (Nat.le_refl _) (by rw [gi_si_k, if_neg (by omega)]) rfl h1.1.2.1
    have em : rwM (si (nwX σ r) 1 10 (gi σ 1 10 + 1)) = rwM σ := by
      funext j
      unfold rwM
      have g : ∀ b, 69 ≤ b → b ≤ 75 → gi (si (nwX σ r) 1 10 (gi σ 1 10 + 1)) b j = gi σ b j := fun b q1 q2 => by rw [gi_si_k, if_neg (by omega), nwX_gi (by omega)]
      rw [g 69 (by omega) (by omega), g 70 (by omega) (by omega), g 71 (by omega) (by omega), g 72 (by omega) (by omega), g 73 (by omega) (by omega), g 74 (by omega) (by omega), g 75 (by omega) (by omega), gl_si_r, nwX_gl (by omega), nwX_gl (by omega)]
    refine M_report hM (fun g => absurd gd g) (fun _ j hj ej => ?_)
    have ej' : t = j := (nI_eq (by omega) (by omega)).mp ej
    rw [← ej', show gi (si (nwX σ r) 1 10 (gi σ 1 10 + 1)) 78 t = gi σ 78 t by rw [gi_si_k, if_neg (by omega), nwX_gi (by omega)], hst, rws_of em, ← er, em, show gi (si (nwX σ r) 1 10 (gi σ 1 10 + 1)) 68 13 = gi (nwX σ r) 68 13 by rw [gi_si_k, if_neg (by omega)]]
    refine ⟨fun q => absurd q (by decide), fun _ => ⟨fun fn => ?_, fun k2 fk hk2 => ?_⟩⟩
    · rw [g1] at fn; cases fn
    · rw [g1] at fk; cases fk
      rw [g3.2.2]
      refine ⟨fun _ => ⟨rfl, ?_⟩, fun q => absurd (sg.2.1.mpr q) (by rw [k0]; decide), fun q => absurd (sg.2.2.mpr q) (by rw [k0]; decide)⟩
      have := h1.cc (k := 10) (j := 13) (Or.inl ⟨rfl, rfl⟩)
      rw [e10] at this
      exact this.iv hn
  · have h1 := h.nw r
    have e11 : gi (nwX σ r) 1 11 = gi σ 1 11 := by rw [nwX_gi (by omega)]
    have hM : MB (si (nwX σ r) 1 11 (gi σ 1 11 + 1)) S := MB_of (σ := nwX σ r) (Nat.le_refl _) (by rw [gi_si_k, if_neg (by omega)]) rfl h1.1.2.1
    have em : rwM (si (nwX σ r) 1 11 (gi σ 1 11 + 1)) = rwM σ := by
      funext j
      unfold rwM
      have g : ∀ b, 69 ≤ b → b ≤ 75 → gi (si (nwX σ r) 1 11 (gi σ 1 11 + 1)) b j = gi σ b j := fun b q1 q2 => by rw [gi_si_k, if_neg (by omega), nwX_gi (by omega)]
      rw [g 69 (by omega) (by omega), g 70 (by omega) (by omega), g 71 (by omega) (by omega), g 72 (by omega) (by omega), g 73 (by omega) (by omega), g 74 (by omega) (by omega), g 75 (by omega) (by omega), gl_si_r, nwX_gl (by omega), nwX_gl (by omega)]
    refine M_report hM (fun g => absurd gd g) (fun _ j hj ej => ?_)
    have ej' : t = j := (nI_eq (by omega) (by omega)).mp ej
    rw [← ej', show gi (si (nwX σ r) 1 11 (gi σ 1 11 + 1)) 78 t = gi σ 78 t by rw [gi_si_k, if_neg (by omega), nwX_gi (by omega)], hst, rws_of em, ← er, em, show gi (si (nwX σ r) 1 11 (gi σ 1 11 + 1)) 68 14 = gi (nwX σ r) 68 14 by rw [gi_si_k, if_neg (by omega)]]
    refine ⟨fun q => absurd q (by decide), fun _ => ⟨fun fn => ?_, fun k2 fk hk2 => ?_⟩⟩
    · rw [g1] at fn; cases fn
    · rw [g1] at fk; cases fk
      rw [g3.2.2]
      refine ⟨fun q => absurd (sg.1.mpr q) (fun z => by rw [z] at k3; exact absurd k3 (by decide)), fun q => absurd (sg.2.1.mpr q) (fun z => Int32.lt_irrefl (Int32.lt_trans z k3)), fun _ => ⟨rfl, ?_⟩⟩
      have := h1.cc (k := 11) (j := 14) (Or.inr (Or.inl ⟨rfl, rfl⟩))
      rw [e11] at this
      exact this.iv hn
  · have hp : P2 σ t (L t) r σ2 := P2_of ht sI1 sI2
    obtain ⟨gx, em, hMx⟩ := ta_x h ht (q := rwX σ (nI t) a) hp
    refine M_report hMx (fun g => absurd gd g) (fun _ j hj ej => ?_)
    have ej' : t = j := (nI_eq (by omega) (by omega)).mp ej
    rw [← ej', gx 78 t (by omega) (by omega) (by omega) (by omega) (by omega) (by omega) (by omega), hst, rws_of em, ← er, em]
    refine ⟨fun q => absurd q (by decide), fun _ => ⟨fun fn => ?_, fun k3 fk hk3 => ?_⟩⟩
    · rw [g1] at fn; cases fn
    · rw [g1] at fk; cases fk
      rw [g3.2.2]
      refine ⟨fun q => absurd (sg.1.mpr q) (fun z => by rw [z] at k2; exact absurd k2 (by decide)), fun _ => ⟨rfl, ?_⟩, fun q => absurd (sg.2.2.mpr q) (fun z => Int32.lt_irrefl (Int32.lt_trans k2 z))⟩
      exact rp_rep h hn ht hr hrt hJ g3 (hrn.trans (hJ.fn hf).symm) hp s0 sl sz s2
end
