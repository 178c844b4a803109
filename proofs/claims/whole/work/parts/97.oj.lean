/-! both: a span in place of another -/
section
variable {N : Nat} {xs : Nat → Int32} {σ σ' : Sto} {n d : Nat} {L : Nat → List Nat} {S : Nat} {D : List Rw} {ol : List Nat} {pth : Nat → List Int32}
theorem ta_gi {σ2 : Sto} {q r : Rw} {a j : Nat} (e1 : a ≠ 4) (e2 : a ≠ 5) (e3 : a ≠ 6) (e5 : ¬ (a = 7 ∧ j = 6)) : gi (taX σ2 q r) a j = gi σ2 a j := by
  unfold taX
  rw [gi_si_k, if_neg e5, tlA_gi e1 e2 e3, tlA_gi e1 e2 e3]
theorem ta_o {σ2 : Sto} (q r : Rw) : gr (taX σ2 q r) = gr σ2 ∧ gl (taX σ2 q r) = gl σ2 ∧ sn (taX σ2 q r) = sn σ2 := by
  unfold taX
  refine ⟨?_, ?_, ?_⟩
  · rw [gr_si_r, (tl_o r 1).1, (tl_o q (-1)).1]
  · rw [gl_si_r, (tl_o r 1).2.1, (tl_o q (-1)).2.1]
  · rw [sn_si_r, (tl_o r 1).2.2, (tl_o q (-1)).2.2]
/-- what the class has written when a span came in place of another -/
def P2 (σ : Sto) (t : Nat) (l : List Nat) (r : Rw) (σ2 : Sto) : Prop := sn σ2 = sn σ + 1 ∧ gl σ2 = gl (nwX σ r) ∧ (∀ a j, ¬ (a = 28 + 2 * t ∧ (j = 1 ∨ j = 2)) → ¬ (a = 1 ∧ j = 11) → gi σ2 a j = gi (nwX σ r) a j) ∧ gi σ2 1 11 = gi σ 1 11 + 1 ∧ (∀ a j, ¬ (a = 28 + 2 * t ∧ j = 0) → ¬ (a ∈ sn σ :: l ∧ j = 8) → gr σ2 a j = gr (nwX σ r) a j)
theorem P2_of {t : Nat} (ht : t < 20) {l : List Nat} {r : Rw} {a : Nat} {σ1 σ2 : Sto} (sI1 : scI (28 + 2 * t) l (si (nwX σ r) 1 11 (gi σ 1 11 + 1)) σ1) (sI2 : scI (28 + 2 * t) (sn σ :: l.erase a) σ1 σ2) : P2 σ t l r σ2 := by
  refine ⟨?_, ?_, fun b j e1 e2 => ?_, ?_, fun b j e1 e2 => ?_⟩
  · rw [sI2.1, sI1.1]; rfl
  · rw [sI2.2.1, sI1.2.1]; rfl
  · rw [sI2.2.2.1 b j e1, sI1.2.2.1 b j e1, gi_si_k, if_neg e2]
  · rw [sI2.2.2.1 1 11 (by omega), sI1.2.2.1 1 11 (by omega), gi_si_k, if_pos ⟨rfl, rfl⟩]
  · rw [sI2.2.2.2 b j e1 (fun q => e2 ⟨by rcases List.mem_cons.mp q.1 with e | e; rw [e]; exact List.mem_cons_self ..; exact List.mem_cons_of_mem _ (List.mem_of_mem_erase e), q.2⟩), sI1.2.2.2 b j e1 (fun q => e2 ⟨List.mem_cons_of_mem _ q.1, q.2⟩)]
    rfl
theorem ta_x (h : INV N xs σ n L S D ol pth) {t : Nat} (ht : t < 20) {q r : Rw} {σ2 : Sto} (hp : P2 σ t (L t) r σ2) : (∀ a j, a < 103 → a ≠ 4 → a ≠ 5 → a ≠ 6 → ¬ (a = 1 ∧ j = 11) → ¬ (a = 7 ∧ j = 6) → ¬ (a = 28 + 2 * t ∧ (j = 1 ∨ j = 2)) → gi (taX σ2 q r) a j = gi σ a j) ∧ rwM (taX σ2 q r) = rwM σ ∧ MB (taX σ2 q r) S := by
  have s103 := h.1.1.xb.1
  have gx : ∀ a j, a < 103 → a ≠ 4 → a ≠ 5 → a ≠ 6 → ¬ (a = 1 ∧ j = 11) → ¬ (a = 7 ∧ j = 6) → ¬ (a = 28 + 2 * t ∧ (j = 1 ∨ j = 2)) → gi (taX σ2 q r) a j = gi σ a j := fun a j e0 e1 e2 e3 e4 e5 e6 => by
    rw [ta_gi e1 e2 e3 e5, hp.2.2.1 a j e6 e4, nwX_gi (by omega)]
  have lx : ∀ a, a < 103 → gl (taX σ2 q r) a = gl σ a := fun a e0 => by
    rw [(ta_o q r).2.1, hp.2.1, nwX_gl (by omega)]
  refine ⟨gx, ?_, ?_⟩
  · funext j
    unfold rwM
    have e : ∀ a, 69 ≤ a → a ≤ 75 → gi (taX σ2 q r) a j = gi σ a j := fun a e1 e2 => gx a j (by omega) (by omega) (by omega) (by omega) (by omega) (by omega) (by omega)
    rw [e 69 (by omega) (by omega), e 70 (by omega) (by omega), e 71 (by omega) (by omega), e 72 (by omega) (by omega), e 73 (by omega) (by omega), e 74 (by omega) (by omega), e 75 (by omega) (by omega), lx 76 (by omega), lx 77 (by omega)]
  · refine MB_of (σ := σ) (by rw [(ta_o q r).2.2, hp.1]; exact Nat.le_succ _) (gx 68 0 (by omega) (by omega) (by omega) (by omega) (by omega) (by omega) (by omega)) (funext fun j => ?_) h.1.2.1
    rw [(ta_o q r).1, hp.2.2.2.2 68 j (by omega) (fun q => by have := L_new h ht 68 q.1; omega), nwX_gr (by omega)]
theorem rp_rep (h : INV N xs σ n L S D ol pth) (hn : n < 64) {t : Nat} (ht : t < 20) {r : Rw} (hr : okR r) (hrt : rT r = nI t) {J : List Nat} (hJ : TC σ S t (L t) J) {k0 a : Nat} (g3 : rl σ t (L t) J k0 a) (hrn : rN r = gi σ a 0) {σ2 : Sto} (hp : P2 σ t (L t) r σ2) (s0 : gr σ2 (28 + 2 * t) 0 = (insL (nwX σ r) (sn σ) ((L t).erase a)).head?) (sl : lkt σ2 (insL (nwX σ r) (sn σ) ((L t).erase a)) none) (sz : gi σ2 (28 + 2 * t) 1 = gi σ (28 + 2 * t) 1) (s2 : gi σ2 (28 + 2 * t) 2 = 0) : IV N xs (stM (si (taX σ2 (rwX σ (nI t) a) r) 68 14 (gi (taX σ2 (rwX σ (nI t) a) r) 68 14 + 1)) k0 r) (n + 1) := by
  obtain ⟨gx, em, -⟩ := ta_x h ht (q := rwX σ (nI t) a) hp
  obtain ⟨⟨i1, i2, i3⟩, i4, i5, i6, i7, i8, i9, i10⟩ := id h
  obtain ⟨t1, t2, t3, t4, t5, t6⟩ := id i4
  obtain ⟨r1, r2, r3, r4, r5, r6⟩ := id i7
  have s103 := i1.xb.1
  have hk0 := hJ.lt g3
  have ha : a ∈ L t := g3.2.1
  have hq := i1.r ht a ha
  have hlE : ((L t).erase a).length = (L t).length - 1 := List.length_erase_of_mem ha
  have hpos : 0 < (L t).length := List.length_pos_of_mem ha
  have lp : (insL (nwX σ r) (sn σ) ((L t).erase a)).length = (L t).length := by
    rw [(insL_perm _ _ _).length_eq, List.length_cons, hlE]; omega
  have e14 : gi (taX σ2 (rwX σ (nI t) a) r) 68 14 = gi σ 68 14 := gx 68 14 (by omega) (by omega) (by omega) (by omega) (by omega) (by omega) (by omega)
  rw [e14]
  have tg : ∀ b j, ¬ (69 ≤ b ∧ b ≤ 75) → ¬ (b = 68 ∧ j = 14) → gi (stM (si (taX σ2 (rwX σ (nI t) a) r) 68 14 (gi σ 68 14 + 1)) k0 r) b j = gi (taX σ2 (rwX σ (nI t) a) r) b j := fun b j e1 e2 => by
    rw [stM_gi e1, gi_si_k, if_neg e2]
  have m14 : gi (stM (si (taX σ2 (rwX σ (nI t) a) r) 68 14 (gi σ 68 14 + 1)) k0 r) 68 14 = gi σ 68 14 + 1 := by
    rw [stM_gi (by omega), gi_si_k, if_pos ⟨rfl, rfl⟩]
  have rρ : gr (stM (si (taX σ2 (rwX σ (nI t) a) r) 68 14 (gi σ 68 14 + 1)) k0 r) = gr σ2 := by rw [(st_o k0 r).1, gr_si_r, (ta_o _ r).1]
  have sρ : sn (stM (si (taX σ2 (rwX σ (nI t) a) r) 68 14 (gi σ 68 14 + 1)) k0 r) = sn σ2 := by rw [(st_o k0 r).2, sn_si_r, (ta_o _ r).2.2]
  have lρ : ∀ b, b ≠ 76 → b ≠ 77 → gl (stM (si (taX σ2 (rwX σ (nI t) a) r) 68 14 (gi σ 68 14 + 1)) k0 r) b = gl σ2 b := fun b e1 e2 => by rw [stM_gl e1 e2, gl_si_r, (ta_o _ r).2.1]
  have ej : ∀ j, rwM (stM (si (taX σ2 (rwX σ (nI t) a) r) 68 14 (gi σ 68 14 + 1)) k0 r) j = if j = k0 then r else rwM σ j := fun j => by
    have e2 : rwM (si (taX σ2 (rwX σ (nI t) a) r) 68 14 (gi σ 68 14 + 1)) j = rwM σ j := by
      rw [← em]
      unfold rwM
      rw [gl_si_r]
      have g : ∀ b, 69 ≤ b → gi (si (taX σ2 (rwX σ (nI t) a) r) 68 14 (gi σ 68 14 + 1)) b j = gi (taX σ2 (rwX σ (nI t) a) r) b j := fun b e => by rw [gi_si_k, if_neg (by omega)]
      rw [g 69 (by omega), g 70 (by omega), g 71 (by omega), g 72 (by omega), g 73 (by omega), g 74 (by omega), g 75 (by omega)]
    rw [rwM_stM, e2]
  generalize stM (si (taX σ2 (rwX σ (nI t) a) r) 68 14 (gi σ 68 14 + 1)) k0 r = ρ at *
  have pr : (List.range S).Perm (k0 :: (List.range S).erase k0) := List.perm_cons_erase (List.mem_range.mpr hk0)
  have peR : (rws σ 0 S).Perm (rwX σ (nI t) a :: ((List.range S).erase k0).map (rwM σ)) := by
    rw [rws_range, ← List.range_eq_range', ← g3.2.2]
    exact pr.map (rwM σ)
  have pe : (rws ρ 0 S).Perm (r :: ((List.range S).erase k0).map (rwM σ)) := by
    rw [rws_range, ← List.range_eq_range']
    refine (pr.map (rwM ρ)).trans ?_
    rw [List.map_cons, ej k0, if_pos rfl]
    have : ((List.range S).erase k0).map (rwM ρ) = ((List.range S).erase k0).map (rwM σ) := List.map_congr_left (fun j hj => by
      rw [ej j, if_neg]
      exact (List.nodup_range.mem_erase_iff.mp hj).1)
    rw [this]
  have hT : isT (nI t) (rwX σ (nI t) a) = true := by unfold isT; simp [rwX, rT]
  have kq : kyR r = kyR (rwX σ (nI t) a) := by
    unfold kyR
    rw [hrt, hrn]
    rfl
  refine rp_I h hn ht hr hrt (l0 := (L t).erase a) (Z := ((List.range S).erase k0).map (rwM σ)) (fun b hb => List.mem_of_mem_erase hb) ((h.nd ht).erase a) (fun b hb q => ?_) rfl ((h.so ht).sublist List.erase_sublist) (by have := (i3.2.2.2 t ht).2; omega) (fun z hz => ?_) ?_ ?_ (fun u hu hne => ?_) pe (fun b j e1 e2 e3 e4 e5 e6 e7 e8 => ?_) (fun b e1 e2 => by rw [lρ b e1 e2, hp.2.1]) (fun b j e1 e2 => by rw [rρ]; exact hp.2.2.2.2 b j e1 e2) (by rw [sρ]; exact hp.1) (by rw [rρ]; exact s0) ?_ ?_ ?_ ?_ ?_ (by omega) (fun P hP => ?_) (fun P hP => ?_) (fun P j hP hj => ?_) ?_ (by omega)
  · have h1 := (h.nd ht).mem_erase_iff.mp hb
    rw [hrn] at q
    exact h1.1 (hJ.2.1 b a h1.2 ha q)
  · obtain ⟨j, hj, ez⟩ := List.mem_map.mp hz
    rw [← ez]
    exact i3.1 j (List.mem_range.mp (List.mem_of_mem_erase hj))
  · rw [kq, ← List.map_cons]
    exact ((peR.map kyR).nodup_iff).mp i3.2.1
  · have f1 := (peR.filter (isT (nI t))).symm.trans (i3.2.2.1 t ht)
    rw [List.filter_cons_of_pos hT] at f1
    have f2 := ((List.perm_cons_erase ha).map (rwX σ (nI t)))
    rw [List.map_cons] at f2
    exact (f1.trans f2).cons_inv
  · have f1 := (peR.filter (isT (nI u))).symm.trans (i3.2.2.1 u hu)
    have hne' : ¬ isT (nI u) (rwX σ (nI t) a) = true := by
      unfold isT
      rw [decide_eq_true_eq]
      show ¬ nI t = nI u
      rw [nI_eq (by omega) (by omega)]
      exact fun q => hne q.symm
    rw [List.filter_cons_of_neg hne'] at f1
    exact f1
  · rw [tg b j e6 (by omega), ta_gi e1 e2 e3 e5, hp.2.2.1 b j e8 (by omega)]
  · rw [tg _ _ (by omega) (by omega), ta_gi (by omega) (by omega) (by omega) (by omega), sz, i1.n ht, lp]
  · rw [tg _ _ (by omega) (by omega), ta_gi (by omega) (by omega) (by omega) (by omega), s2]
  · exact lkt_of (σ := σ2) (Nat.le_of_eq sρ.symm) (fun _ _ => by rw [rρ]) sl
  · rw [tg _ _ (by omega) (by omega)]; unfold taX; rw [gi_si_k, if_pos ⟨rfl, rfl⟩]
  · rw [tg _ _ (by omega) (by omega), gx 68 0 (by omega) (by omega) (by omega) (by omega) (by omega) (by omega) (by omega)]; exact i2.n
  · rw [cntD pe, nI_p, tg _ _ (by omega) (by omega)]
    unfold taX
    rw [gi_si_k, if_neg (by omega), tl4, tl4, hp.2.2.1 4 P (by omega) (by omega), nwX_gi (by omega), t4 P hP, cntD peR, ← ifd (p := gfI (rwX σ (nI t) a) = P), nI_q, ifd]
  · rw [cntD pe, nI_p, tg _ _ (by omega) (by omega)]
    unfold taX
    rw [gi_si_k, if_neg (by omega), tl5, tl5, hp.2.2.1 5 P (by omega) (by omega), nwX_gi (by omega), t5 P hP, cntD peR, (f01 hr P).1, (f01 hq P).2, ← ifd (p := gfI (rwX σ (nI t) a) = P ∧ rF (rwX σ (nI t) a) = 1), nI_q, ifd]
  · rw [cntD pe, nI_p, tg _ _ (by omega) (by omega)]
    unfold taX
    rw [gi_si_k, if_neg (by omega), tl6 _ _ _ _ _ hj, tl6 _ _ _ _ _ hj, hp.2.2.1 6 _ (by omega) (by omega), nwX_gi (by omega), t6 P j hP hj, cntD peR, ← ifd (p := gfI (rwX σ (nI t) a) = P ∧ stp (rwX σ (nI t) a) = j), nI_q, ifd]
  · have g1 : ∀ j, 9 ≤ j → j ≤ 14 → j ≠ 11 → gi ρ 1 j = gi σ 1 j := fun j e1 e2 e3 => by
      rw [tg _ _ (by omega) (by omega)]; exact gx 1 j (by omega) (by omega) (by omega) (by omega) (by omega) (by omega) (by omega)
    have g68 : ∀ j, 13 ≤ j → j ≤ 17 → j ≠ 14 → gi ρ 68 j = gi σ 68 j := fun j e1 e2 e3 => by
      rw [tg _ _ (by omega) (by omega)]; exact gx 68 j (by omega) (by omega) (by omega) (by omega) (by omega) (by omega) (by omega)
    refine ⟨by rw [g1 9 (by omega) (by omega) (by omega)]; exact r1, by rw [g1 10 (by omega) (by omega) (by omega), g68 13 (by omega) (by omega) (by omega)]; exact r2, ?_, by rw [g1 12 (by omega) (by omega) (by omega), g68 15 (by omega) (by omega) (by omega)]; exact r4, by rw [g1 13 (by omega) (by omega) (by omega), g68 16 (by omega) (by omega) (by omega)]; exact r5, by rw [g1 14 (by omega) (by omega) (by omega), g68 17 (by omega) (by omega) (by omega)]; exact r6⟩
    rw [m14, tg _ _ (by omega) (by omega), ta_gi (by omega) (by omega) (by omega) (by omega), hp.2.2.2.1, r3]
end
