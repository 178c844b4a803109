/-! the rest, and the whole: what the abstract machine says holds of the machine -/
section
variable {G : GG} {b : B3} {k pc : Nat} {lc st r : List AV} {σ : Sto} {Q : Po}
theorem so_objInit {x a d c0 s0 : Nat} {rest : List AV} (hd : decode (mB k) pc = .ok (.invokespecial x, 3)) (hk : lok k x = true) {q1 q2 q3 : Nat} (hq : alook mlkT (mC k * 1000 + x) = some (6, q1, q2, q3)) (hw : wsum rest ≤ 8) (h : WPs G (d + 1, c0, s0) k (pc + 3) lc rest σ Q) : WPs G (d + 1, c0, s0) k pc lc (aR (some a) :: rest) σ Q := fun p e R s m args below meth c QQ C H locs cells slots ls hS hF hl hc hs => by
  have l1 : Cond.methodLink (cnm ((mC k * 1000 + x) / 1000)) ((mC k * 1000 + x) % 1000) objectInit ∈ Tg := lkAll _ (alook_mem _ _ _ hq)
  obtain ⟨e1, e2, -⟩ := lok_d hk
  rw [e1, e2] at l1
  have hts := C.2.2.2.2.1
  have hR := C.2.2.2.2.2.2.1
  have hR2 := C.2.2.2.2.2.2.2.1
  dsimp only at hR hR2
  exact W.objInit C.1 C.2.1 C.2.2.2.1 (hts _ l1) (hts _ w_oi) (hts _ w_oc) rfl (hl.1.trans C.2.2.1.symm) (rest := rest.map (rho G)) rfl hd (by omega) (by show 2 * 0 + _ + 12 ≤ _; rw [wsum_eq]; omega) (h p e R s m args below meth c QQ C H locs cells slots ls hS hF hl hc hs)
theorem so_max {x d c0 s0 : Nat} {u v : Int64} {rest : List AV} (hd : decode (mB k) pc = .ok (.invokestatic x, 3)) (hk : lok k x = true) {q1 q2 q3 : Nat} (hq : alook mlkT (mC k * 1000 + x) = some (8, q1, q2, q3)) (hw : wsum rest ≤ 8) (h : WPs G (d + 1, c0, s0) k (pc + 3) lc (aL (if v < u then u else v) :: rest) σ Q) : WPs G (d + 1, c0, s0) k pc lc (aL v :: aL u :: rest) σ Q := fun p e R s m args below meth c QQ C H locs cells slots ls hS hF hl hc hs => by
  have l1 : Cond.methodLink (cnm ((mC k * 1000 + x) / 1000)) ((mC k * 1000 + x) % 1000) Lib.MathLoose.max_long.x ∈ Tg := lkAll _ (alook_mem _ _ _ hq)
  obtain ⟨e1, e2, -⟩ := lok_d hk
  rw [e1, e2] at l1
  have hts := C.2.2.2.2.1
  have hR := C.2.2.2.2.2.2.1
  have hR2 := C.2.2.2.2.2.2.2.1
  dsimp only at hR hR2 hc hs
  exact va_mmax_long C.1 C.2.1 (C.2.2.1.trans hl.1.symm) C.2.2.2.1 (hts _ l1) (hts _ w_xs) (hts _ w_ma) (hts _ w_xc) (by omega) (by rw [wsum_eq]; omega) (by omega) (by omega) hd (h p e R s m args below meth c QQ C H locs cells slots ls hS hF hl hc hs)
theorem so_min {x d c0 s0 : Nat} {u v : Int64} {rest : List AV} (hd : decode (mB k) pc = .ok (.invokestatic x, 3)) (hk : lok k x = true) {q1 q2 q3 : Nat} (hq : alook mlkT (mC k * 1000 + x) = some (9, q1, q2, q3)) (hw : wsum rest ≤ 8) (h : WPs G (d + 1, c0, s0) k (pc + 3) lc (aL (if v < u then v else u) :: rest) σ Q) : WPs G (d + 1, c0, s0) k pc lc (aL v :: aL u :: rest) σ Q := fun p e R s m args below meth c QQ C H locs cells slots ls hS hF hl hc hs => by
  have l1 : Cond.methodLink (cnm ((mC k * 1000 + x) / 1000)) ((mC k * 1000 + x) % 1000) Lib.MathLoose.min_long.x ∈ Tg := lkAll _ (alook_mem _ _ _ hq)
  obtain ⟨e1, e2, -⟩ := lok_d hk
  rw [e1, e2] at l1
  have hts := C.2.2.2.2.1
  have hR := C.2.2.2.2.2.2.1
  have hR2 := C.2.2.2.2.2.2.2.1
  dsimp only at hR hR2 hc hs
  exact va_mmin_long C.1 C.2.1 (C.2.2.1.trans hl.1.symm) C.2.2.2.1 (hts _ l1) (hts _ w_ns) (hts _ w_ma) (hts _ w_nc) (by omega) (by rw [wsum_eq]; omega) (by omega) (by omega) hd (h p e R s m args below meth c QQ C H locs cells slots ls hS hF hl hc hs)
theorem so_copy {x d c0 s0 a a0 : Nat} {sp dp n : Int32} {rest : List AV} (hd : decode (mB k) pc = .ok (.invokestatic x, 3)) (hk : lok k x = true) {q1 q2 q3 : Nat} (hq : alook mlkT (mC k * 1000 + x) = some (7, q1, q2, q3)) (hw : wsum rest ≤ 8)
    (ho : a < sn σ ∧ (kd a).1 = 8) (ho0 : a0 < sn σ ∧ (kd a0).1 = 8) (h1 : ¬ sp < 0) (h2 : ¬ dp < 0) (h3 : ¬ n < 0) (h4 : sp.toNatClampNeg + n.toNatClampNeg ≤ (kd a0).2) (h5 : dp.toNatClampNeg + n.toNatClampNeg ≤ (kd a).2)
    (h : WPs G (d + 1, c0, s0) k (pc + 3) lc rest (slr σ a (va_cpy (gl σ a0) (gl σ a) sp.toNatClampNeg dp.toNatClampNeg n.toNatClampNeg)) Q) : WPs G (d + 1, c0, s0) k pc lc (aI n :: aI dp :: aR (some a) :: aI sp :: aR (some a0) :: rest) σ Q := fun p e R s m args below meth c QQ C H locs cells slots ls hS hF hl hc hs => by
  have l1 : Cond.methodLink (cnm ((mC k * 1000 + x) / 1000)) ((mC k * 1000 + x) % 1000) arraycopyName ∈ Tg := lkAll _ (alook_mem _ _ _ hq)
  obtain ⟨e1, e2, -⟩ := lok_d hk
  rw [e1, e2] at l1
  have hts := C.2.2.2.2.1
  have hR := C.2.2.2.2.2.2.1
  have hR2 := C.2.2.2.2.2.2.2.1
  dsimp only at hR hR2 hc hs
  have ha : 1 ≤ a := pos_of ho.2 (by omega)
  have ha0 : 1 ≤ a0 := pos_of ho0.2 (by omega)
  have hc0 := (hS.2.2.2.2.2.2.2.2 a0 ha0 ho0.1).arr ho0.2 (by omega)
  have hc1 := (hS.2.2.2.2.2.2.2.2 a ha ho.1).arr ho.2 (by omega)
  have hty := C.2.2.2.2.2.1.1.2
  have nn : ∀ z : Int32, ¬ z < 0 → z.toInt = ((z.toNatClampNeg : Nat) : Int) := by
    intro z hz
    have hz0 : (0 : Int) ≤ z.toInt := by
      have := Int32.not_lt.mp hz
      simpa using Int32.le_iff_toInt_le.mp this
    show z.toInt = ((z.toInt.toNat : Nat) : Int)
    omega
  have hnf : nativeFrameWords "java/lang/System" "arraycopy" 5 ≤ 40 := by decide
  intro T hT X
  obtain ⟨-, k0, hk0, cm0, hkk0⟩ := (hty 1 _ rfl).1 (kd a0).2 (avl G σ 8 a0)
  obtain ⟨-, k1, hk1, cm1, hkk1⟩ := (hty 1 _ rfl).1 (kd a).2 (avl G σ 8 a)
  obtain ⟨vm', X', step⟩ := X.arraycopy C.1 C.2.2.2.1 (hts _ l1) (hts _ w_an) (hts _ w_as) (hts _ w_si) (src := ad G a0) (dst := ad G a) (cs := arrV (gC G 8) (kd a0).2 (avl G σ 8 a0)) (cd := arrV (gC G 8) (kd a).2 (avl G σ 8 a)) (srcPos := sp) (destPos := dp) (n := n) (by rw [hT]; exact hc0) (by rw [hT]; exact hc1)
    (fun _ h => by cases h) (fun _ h => by cases h) (fun h => by cases h) (fun h => by cases h) hk0 hk1 hkk0 hkk1 (by simp [refKind]) h1 h2 h3
    (by rw [nn sp h1, nn n h3, arrV_size]; omega)
    (by rw [nn dp h2, nn n h3, arrV_size]; omega)
    (fun vm₁ _ i hi => by
      have e9 : (arrV (gC G 8) (kd a0).2 (avl G σ 8 a0)).slots.getD (sp.toNatClampNeg + i) .null = .long (gl σ a0 (sp.toNatClampNeg + i)) := by
        rw [Array.getD_eq_getD_getElem?, arrV_read _ _ (by omega)]
        rfl
      refine ⟨?_, ?_⟩
      · rw [e9]
        rfl
      · rw [e9]
        exact trivial)
    (g := F0 m pc ls (.int n :: .int dp :: .ref (ad G a) :: .int sp :: .ref (ad G a0) :: rest.map (rho G))) rfl (hl.1.trans C.2.2.1.symm) (rest := rest.map (rho G)) rfl (by rw [C.2.1]; exact hd) (by omega) (by show 2 * 0 + _ + _ ≤ _; rw [wsum_eq]; omega)
  have e3 : copied (arrV (gC G 8) (kd a0).2 (avl G σ 8 a0)) (arrV (gC G 8) (kd a).2 (avl G σ 8 a)) sp dp n = arrV (gC G 8) (kd a).2 (fun j => .long (va_cpy (gl σ a0) (gl σ a) sp.toNatClampNeg dp.toNatClampNeg n.toNatClampNeg j)) := va_copied (fun z => .long z) (gC G 8) (gC G 8) (gl σ a0) (gl σ a) h4
  rw [e3] at X' step
  have hlt : ad G a < H.size := (Array.getElem?_eq_some_iff.mp hc1).1
  have oq : ∀ q : Nat, q ≠ ad G a → (H.setIfInBounds (ad G a) (arrV (gC G 8) (kd a).2 (fun j => .long (va_cpy (gl σ a0) (gl σ a) sp.toNatClampNeg dp.toNatClampNeg n.toNatClampNeg j))))[q]? = H[q]? := fun q hq => by simp [Array.getElem?_setIfInBounds, Ne.symm hq]
  have hheap : ((T.setVm vm').setCell (ad G a) (arrV (gC G 8) (kd a).2 (fun j => .long (va_cpy (gl σ a0) (gl σ a) sp.toNatClampNeg dp.toNatClampNeg n.toNatClampNeg j)))).heap = H.setIfInBounds (ad G a) (arrV (gC G 8) (kd a).2 (fun j => .long (va_cpy (gl σ a0) (gl σ a) sp.toNatClampNeg dp.toNatClampNeg n.toNatClampNeg j))) := by rw [← hT]; rfl
  have hS' : Sim G (slr σ a (va_cpy (gl σ a0) (gl σ a) sp.toNatClampNeg dp.toNatClampNeg n.toNatClampNeg)) (H.setIfInBounds (ad G a) (arrV (gC G 8) (kd a).2 (fun j => .long (va_cpy (gl σ a0) (gl σ a) sp.toNatClampNeg dp.toNatClampNeg n.toNatClampNeg j)))) := by
    refine hS.upd rfl ha (fun c hc => same_slr hc) (by simp) oq (celK.ofArr ho.2 (by omega) ?_)
    rw [show (H.setIfInBounds (ad G a) (arrV (gC G 8) (kd a).2 (fun j => .long (va_cpy (gl σ a0) (gl σ a) sp.toNatClampNeg dp.toNatClampNeg n.toNatClampNeg j))))[ad G a]? = some (arrV (gC G 8) (kd a).2 (fun j => .long (va_cpy (gl σ a0) (gl σ a) sp.toNatClampNeg dp.toNatClampNeg n.toNatClampNeg j))) by simp [Array.getElem?_setIfInBounds, hlt]]
    congr 2
    funext j
    show _ = Value.long (gl (slr σ a _) a j)
    rw [gl_slr]
  obtain ⟨t, a1, b1⟩ := h p e R s m args below meth c QQ C _ _ cells slots ls hS' (⟨by simp; exact hF.1, fun q g1 g2 => by
      rw [oq q (fun e => g2 (by rw [e]; exact Fre_ad ha))]
      exact hF.2.1 q g1 g2, fun q hq => by
      rcases List.mem_append.mp hq with h | h
      · exact hF.2.2 q h
      · obtain ⟨z, -, hz⟩ := List.mem_map.mp h
        rw [← hz]
        exact Fre_ad ha⟩) hl hc hs _ hheap X'
  exact ⟨t, step t a1, b1⟩
theorem pops_d : ∀ (n : Nat) (st acc vs rest : List AV), pops n st acc = some (vs, rest) → ∃ ws : List AV, ws.length = n ∧ vs = ws.reverse ++ acc ∧ st = ws ++ rest
  | 0, st, acc, vs, rest, h => by
    unfold pops at h
    cases h
    exact ⟨[], rfl, rfl, rfl⟩
  | n + 1, [], acc, vs, rest, h => by
    unfold pops at h
    cases h
  | n + 1, v :: st, acc, vs, rest, h => by
    unfold pops at h
    obtain ⟨ws, h1, h2, h3⟩ := pops_d n st (v :: acc) vs rest h
    refine ⟨v :: ws, by simp [h1], ?_, by rw [h3]; rfl⟩
    rw [h2]
    simp
theorem pops_e {n : Nat} {st vs rest : List AV} (h : pops n st [] = some (vs, rest)) : vs.length = n ∧ st = vs.reverse ++ rest := by
  obtain ⟨ws, h1, h2, h3⟩ := pops_d n st [] vs rest h
  rw [List.append_nil] at h2
  rw [h2, h3]
  simp [h1]
theorem vdo_d {P : EvT} {b : B3} {k pc : Nat} {lc : List AV} {σ : Sto} {Q : Po} {k' : Nat} {vs rest : List AV} (h : vdo P b k pc lc σ Q k' vs rest) : ∃ (d c0 s0 : Nat) (S : Po), b = (d + 1, c0, s0) ∧ wsum rest ≤ 8 ∧ (lent0 vs).length ≤ mX k' ∧ (mO k').1 ≤ c0 ∧ (mO k').2 ≤ s0 ∧ P (d, mO k') k' 0 (lent vs (mX k')) [] σ S ∧ vback P k lc Q (d + 1, c0 - (mO k').1, s0 - (mO k').2) (pc + 3) k' rest S := by
  unfold vdo at h
  split at h
  · exact h.elim
  · obtain ⟨h0, h1, h2, S, h3, h4⟩ := gd_t h
    rw [Bool.and_eq_true] at h0
    exact ⟨_, _, _, S, rfl, Nat.le_of_ble_eq_true h0.1, Nat.le_of_ble_eq_true h0.2, h1, h2, h3, h4⟩
theorem so_inv {x : Nat} {i : Instr} {kd0 : Nat} (hi : (i = .invokevirtual x ∧ kd0 = 0) ∨ (i = .invokespecial x ∧ kd0 = 1) ∨ (i = .invokestatic x ∧ kd0 = 2)) (hd : decode (mB k) pc = .ok (i, 3)) (hk : lok k x = true) (h : vinv (WPs G) b k pc lc st σ Q kd0 (alook mlkT (mC k * 1000 + x))) : WPs G b k pc lc st σ Q := by
  unfold vinv at h
  split at h
  · rename_i k' ci na hq
    obtain ⟨h0, h⟩ := gd_t h
    have hk0 : kd0 = 0 := Nat.eq_of_beq_eq_true h0
    have hi' : i = .invokevirtual x := by rcases hi with ⟨z, -⟩ | ⟨-, z⟩ | ⟨-, z⟩ <;> first | exact z | omega
    subst hi'
    split at h
    · rename_i vs a rest hp
      obtain ⟨ho, h⟩ := h
      obtain ⟨d, c0, s0, S, rfl, g1, g2, g3, g4, g5, g6⟩ := vdo_d h
      obtain ⟨e1, e2⟩ := pops_e hp
      rw [e2]
      exact so_callV hd hk hq ho e1 g1 g2 g3 g4 g5 g6
    · exact h.elim
  · rename_i k' ci na hq
    obtain ⟨h0, h⟩ := gd_t h
    have hk0 : kd0 = 1 := Nat.eq_of_beq_eq_true h0
    have hi' : i = .invokespecial x := by rcases hi with ⟨-, z⟩ | ⟨z, -⟩ | ⟨-, z⟩ <;> first | exact z | omega
    subst hi'
    split at h
    · rename_i vs a rest hp
      obtain ⟨d, c0, s0, S, rfl, g1, g2, g3, g4, g5, g6⟩ := vdo_d h
      obtain ⟨e1, e2⟩ := pops_e hp
      rw [e2]
      exact so_callI hd hk hq (Or.inl rfl) e1 g1 g2 g3 g4 g5 g6
    · exact h.elim
  · rename_i k' ci na hq
    obtain ⟨h0, h⟩ := gd_t h
    have hk0 : kd0 = 1 := Nat.eq_of_beq_eq_true h0
    have hi' : i = .invokespecial x := by rcases hi with ⟨-, z⟩ | ⟨z, -⟩ | ⟨-, z⟩ <;> first | exact z | omega
    subst hi'
    split at h
    · rename_i vs a rest hp
      obtain ⟨d, c0, s0, S, rfl, g1, g2, g3, g4, g5, g6⟩ := vdo_d h
      obtain ⟨e1, e2⟩ := pops_e hp
      rw [e2]
      exact so_callI hd hk hq (Or.inr rfl) e1 g1 g2 g3 g4 g5 g6
    · exact h.elim
  · rename_i k' ci na hq
    obtain ⟨h0, h⟩ := gd_t h
    have hk0 : kd0 = 2 := Nat.eq_of_beq_eq_true h0
    have hi' : i = .invokestatic x := by rcases hi with ⟨-, z⟩ | ⟨-, z⟩ | ⟨z, -⟩ <;> first | exact z | omega
    subst hi'
    split at h
    · rename_i vs rest hp
      obtain ⟨d, c0, s0, S, rfl, g1, g2, g3, g4, g5, g6⟩ := vdo_d h
      obtain ⟨e1, e2⟩ := pops_e hp
      rw [e2]
      exact so_callS hd hk hq (Or.inl rfl) e1 g1 g2 g3 g4 g5 g6
    · exact h.elim
  · rename_i k' ci na hq
    obtain ⟨h0, h⟩ := gd_t h
    have hk0 : kd0 = 2 := Nat.eq_of_beq_eq_true h0
    have hi' : i = .invokestatic x := by rcases hi with ⟨-, z⟩ | ⟨-, z⟩ | ⟨z, -⟩ <;> first | exact z | omega
    subst hi'
    split at h
    · rename_i vs rest hp
      obtain ⟨d, c0, s0, S, rfl, g1, g2, g3, g4, g5, g6⟩ := vdo_d h
      obtain ⟨e1, e2⟩ := pops_e hp
      rw [e2]
      exact so_callS hd hk hq (Or.inr rfl) e1 g1 g2 g3 g4 g5 g6
    · exact h.elim
  · rename_i hq
    obtain ⟨h0, h⟩ := gd_t h
    have hk0 : kd0 = 1 := Nat.eq_of_beq_eq_true h0
    have hi' : i = .invokespecial x := by rcases hi with ⟨-, z⟩ | ⟨z, -⟩ | ⟨-, z⟩ <;> first | exact z | omega
    subst hi'
    split at h
    · exact h.elim
    · obtain ⟨a, rest, rfl, h⟩ := p1o_d h
      obtain ⟨h1, h⟩ := gd_t h
      exact so_objInit hd hk hq (Nat.le_of_ble_eq_true h1) h
  · rename_i hq
    obtain ⟨h0, h⟩ := gd_t h
    have hk0 : kd0 = 2 := Nat.eq_of_beq_eq_true h0
    have hi' : i = .invokestatic x := by rcases hi with ⟨-, z⟩ | ⟨-, z⟩ | ⟨z, -⟩ <;> first | exact z | omega
    subst hi'
    split at h
    · exact h.elim
    · obtain ⟨n, r1, y1, h1⟩ := p1i_d h
      obtain ⟨dp, r2, y2, h2⟩ := p1i_d h1
      obtain ⟨a, r3, y3, h3⟩ := p1o_d h2
      obtain ⟨sp, r4, y4, h4⟩ := p1i_d h3
      obtain ⟨a0, r5, y5, h5⟩ := p1o_d h4
      obtain ⟨h1, g1, g2, g3, g4, g5, g6, g7, g8⟩ := gd_t h5
      rw [y1, y2, y3, y4, y5]
      exact so_copy hd hk hq (Nat.le_of_ble_eq_true h1) g1 g2 g3 g4 g5 g6 g7 g8
  · rename_i hq
    obtain ⟨h0, h⟩ := gd_t h
    have hk0 : kd0 = 2 := Nat.eq_of_beq_eq_true h0
    have hi' : i = .invokestatic x := by rcases hi with ⟨-, z⟩ | ⟨-, z⟩ | ⟨z, -⟩ <;> first | exact z | omega
    subst hi'
    split at h
    · exact h.elim
    · obtain ⟨y, r1, y1, h1⟩ := p1l_d h
      obtain ⟨z, r2, y2, h2⟩ := p1l_d h1
      obtain ⟨h3, h4⟩ := gd_t h2
      rw [y1, y2]
      exact so_max hd hk hq (Nat.le_of_ble_eq_true h3) h4
  · rename_i hq
    obtain ⟨h0, h⟩ := gd_t h
    have hk0 : kd0 = 2 := Nat.eq_of_beq_eq_true h0
    have hi' : i = .invokestatic x := by rcases hi with ⟨-, z⟩ | ⟨-, z⟩ | ⟨z, -⟩ <;> first | exact z | omega
    subst hi'
    split at h
    · exact h.elim
    · obtain ⟨y, r1, y1, h1⟩ := p1l_d h
      obtain ⟨z, r2, y2, h2⟩ := p1l_d h1
      obtain ⟨h3, h4⟩ := gd_t h2
      rw [y1, y2]
      exact so_min hd hk hq (Nat.le_of_ble_eq_true h3) h4
  · exact h.elim
end
